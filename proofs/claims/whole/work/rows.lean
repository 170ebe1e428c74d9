section
-- ===== PART A: goes FIRST, ahead of the names: the tables' words, and 'selects' of the private methods out of them =====
/-- a private method of a class that the tables say can be made, by its rows of tables_1 -/
def lw_okq (q : MethodName × Nat) : Prop := (q.1.cls ≠ "java/lang/invoke/MethodHandle" ∧ q.1.cls ≠ "java/lang/invoke/VarHandle") ∧ Cond.instantiable q.1.cls q.2 ∈ tables_1 ∧ Cond.privateMethod q.1 ∈ tables_1 ∧ Cond.instanceMethod q.1 ∈ tables_1
theorem lw_p0 : lw_okq (⟨"SurveyStore", "branchAt", "(I)LSurveyStore$Branch;"⟩, 14) := ⟨⟨by decide +kernel, by decide +kernel⟩, List.mem_of_getElem? (i := 17) (by decide +kernel), List.mem_of_getElem? (i := 158) (by decide +kernel), List.mem_of_getElem? (i := 159) (by decide +kernel)⟩
theorem lw_p1 : lw_okq (⟨"SurveyStore", "cellAt", "(IIII)J"⟩, 14) := ⟨⟨by decide +kernel, by decide +kernel⟩, List.mem_of_getElem? (i := 17) (by decide +kernel), List.mem_of_getElem? (i := 211) (by decide +kernel), List.mem_of_getElem? (i := 212) (by decide +kernel)⟩
theorem lw_p2 : lw_okq (⟨"SurveyStore", "cellsOf", "(I)[J"⟩, 14) := ⟨⟨by decide +kernel, by decide +kernel⟩, List.mem_of_getElem? (i := 17) (by decide +kernel), List.mem_of_getElem? (i := 215) (by decide +kernel), List.mem_of_getElem? (i := 216) (by decide +kernel)⟩
theorem lw_p3 : lw_okq (⟨"SurveyStore", "commitAt", "(I)LSurveyStore$Commit;"⟩, 14) := ⟨⟨by decide +kernel, by decide +kernel⟩, List.mem_of_getElem? (i := 17) (by decide +kernel), List.mem_of_getElem? (i := 219) (by decide +kernel), List.mem_of_getElem? (i := 220) (by decide +kernel)⟩
theorem lw_p4 : lw_okq (⟨"SurveyStore", "branchOfPlace", "(I)LSurveyStore$Branch;"⟩, 14) := ⟨⟨by decide +kernel, by decide +kernel⟩, List.mem_of_getElem? (i := 17) (by decide +kernel), List.mem_of_getElem? (i := 223) (by decide +kernel), List.mem_of_getElem? (i := 224) (by decide +kernel)⟩
theorem lw_p5 : lw_okq (⟨"SurveyStore", "nearestOf", "(II)I"⟩, 14) := ⟨⟨by decide +kernel, by decide +kernel⟩, List.mem_of_getElem? (i := 17) (by decide +kernel), List.mem_of_getElem? (i := 261) (by decide +kernel), List.mem_of_getElem? (i := 262) (by decide +kernel)⟩
theorem lw_p6 : lw_okq (⟨"SurveyStore", "ancestorsOf", "(I)I"⟩, 14) := ⟨⟨by decide +kernel, by decide +kernel⟩, List.mem_of_getElem? (i := 17) (by decide +kernel), List.mem_of_getElem? (i := 268) (by decide +kernel), List.mem_of_getElem? (i := 269) (by decide +kernel)⟩
theorem lw_p7 : lw_okq (⟨"SurveyStore", "aboutCommit", "(LSurveyStore$Commit;II)I"⟩, 14) := ⟨⟨by decide +kernel, by decide +kernel⟩, List.mem_of_getElem? (i := 17) (by decide +kernel), List.mem_of_getElem? (i := 276) (by decide +kernel), List.mem_of_getElem? (i := 277) (by decide +kernel)⟩
theorem lw_p8 : lw_okq (⟨"SurveyStore", "childrenOf", "(I)I"⟩, 14) := ⟨⟨by decide +kernel, by decide +kernel⟩, List.mem_of_getElem? (i := 17) (by decide +kernel), List.mem_of_getElem? (i := 280) (by decide +kernel), List.mem_of_getElem? (i := 281) (by decide +kernel)⟩
theorem lw_p9 : lw_okq (⟨"SurveyStore", "aboutBranch", "(LSurveyStore$Branch;I)I"⟩, 14) := ⟨⟨by decide +kernel, by decide +kernel⟩, List.mem_of_getElem? (i := 17) (by decide +kernel), List.mem_of_getElem? (i := 288) (by decide +kernel), List.mem_of_getElem? (i := 289) (by decide +kernel)⟩
theorem lw_p10 : lw_okq (⟨"SurveyStore", "isChanged", "(LSurveyStore$Branch;)Z"⟩, 14) := ⟨⟨by decide +kernel, by decide +kernel⟩, List.mem_of_getElem? (i := 17) (by decide +kernel), List.mem_of_getElem? (i := 292) (by decide +kernel), List.mem_of_getElem? (i := 293) (by decide +kernel)⟩
theorem lw_p11 : lw_okq (⟨"java/lang/Throwable", "fillInStackTrace", "(I)Ljava/lang/Throwable;"⟩, 6) := ⟨⟨by decide +kernel, by decide +kernel⟩, List.mem_of_getElem? (i := 392) (by decide +kernel), List.mem_of_getElem? (i := 390) (by decide +kernel), List.mem_of_getElem? (i := 391) (by decide +kernel)⟩
theorem lw_p12 : lw_okq (⟨"SurveyStore", "branchToEdit", "(II)LSurveyStore$Branch;"⟩, 14) := ⟨⟨by decide +kernel, by decide +kernel⟩, List.mem_of_getElem? (i := 17) (by decide +kernel), List.mem_of_getElem? (i := 439) (by decide +kernel), List.mem_of_getElem? (i := 440) (by decide +kernel)⟩
theorem lw_p13 : lw_okq (⟨"SurveyStore", "isInside", "(III)Z"⟩, 14) := ⟨⟨by decide +kernel, by decide +kernel⟩, List.mem_of_getElem? (i := 17) (by decide +kernel), List.mem_of_getElem? (i := 465) (by decide +kernel), List.mem_of_getElem? (i := 466) (by decide +kernel)⟩
theorem lw_p14 : lw_okq (⟨"SurveyStore", "isRightOf", "(IIII)Z"⟩, 14) := ⟨⟨by decide +kernel, by decide +kernel⟩, List.mem_of_getElem? (i := 17) (by decide +kernel), List.mem_of_getElem? (i := 469) (by decide +kernel), List.mem_of_getElem? (i := 470) (by decide +kernel)⟩
theorem lw_p15 : lw_okq (⟨"SurveyStore", "mapped", "(I)I"⟩, 14) := ⟨⟨by decide +kernel, by decide +kernel⟩, List.mem_of_getElem? (i := 17) (by decide +kernel), List.mem_of_getElem? (i := 488) (by decide +kernel), List.mem_of_getElem? (i := 489) (by decide +kernel)⟩
def lw_privs_1 : List (MethodName × Nat) := [(⟨"SurveyStore", "branchAt", "(I)LSurveyStore$Branch;"⟩, 14), (⟨"SurveyStore", "cellAt", "(IIII)J"⟩, 14), (⟨"SurveyStore", "cellsOf", "(I)[J"⟩, 14), (⟨"SurveyStore", "commitAt", "(I)LSurveyStore$Commit;"⟩, 14), (⟨"SurveyStore", "branchOfPlace", "(I)LSurveyStore$Branch;"⟩, 14), (⟨"SurveyStore", "nearestOf", "(II)I"⟩, 14), (⟨"SurveyStore", "ancestorsOf", "(I)I"⟩, 14), (⟨"SurveyStore", "aboutCommit", "(LSurveyStore$Commit;II)I"⟩, 14), (⟨"SurveyStore", "childrenOf", "(I)I"⟩, 14), (⟨"SurveyStore", "aboutBranch", "(LSurveyStore$Branch;I)I"⟩, 14), (⟨"SurveyStore", "isChanged", "(LSurveyStore$Branch;)Z"⟩, 14), (⟨"java/lang/Throwable", "fillInStackTrace", "(I)Ljava/lang/Throwable;"⟩, 6), (⟨"SurveyStore", "branchToEdit", "(II)LSurveyStore$Branch;"⟩, 14), (⟨"SurveyStore", "isInside", "(III)Z"⟩, 14), (⟨"SurveyStore", "isRightOf", "(IIII)Z"⟩, 14), (⟨"SurveyStore", "mapped", "(I)I"⟩, 14)]
theorem lw_r1 : ∀ q ∈ lw_privs_1, lw_okq q := List.forall_mem_cons.mpr ⟨lw_p0, List.forall_mem_cons.mpr ⟨lw_p1, List.forall_mem_cons.mpr ⟨lw_p2, List.forall_mem_cons.mpr ⟨lw_p3, List.forall_mem_cons.mpr ⟨lw_p4, List.forall_mem_cons.mpr ⟨lw_p5, List.forall_mem_cons.mpr ⟨lw_p6, List.forall_mem_cons.mpr ⟨lw_p7, List.forall_mem_cons.mpr ⟨lw_p8, List.forall_mem_cons.mpr ⟨lw_p9, List.forall_mem_cons.mpr ⟨lw_p10, List.forall_mem_cons.mpr ⟨lw_p11, List.forall_mem_cons.mpr ⟨lw_p12, List.forall_mem_cons.mpr ⟨lw_p13, List.forall_mem_cons.mpr ⟨lw_p14, List.forall_mem_cons.mpr ⟨lw_p15, fun _ h => absurd h List.not_mem_nil⟩⟩⟩⟩⟩⟩⟩⟩⟩⟩⟩⟩⟩⟩⟩⟩
theorem lw_p16 : lw_okq (⟨"SurveyStore", "baseOf", "(III)LSurveyStore$BaseRow;"⟩, 14) := ⟨⟨by decide +kernel, by decide +kernel⟩, List.mem_of_getElem? (i := 17) (by decide +kernel), List.mem_of_getElem? (i := 542) (by decide +kernel), List.mem_of_getElem? (i := 543) (by decide +kernel)⟩
theorem lw_p17 : lw_okq (⟨"SurveyStore", "baseRowAt", "(I)LSurveyStore$BaseRow;"⟩, 14) := ⟨⟨by decide +kernel, by decide +kernel⟩, List.mem_of_getElem? (i := 17) (by decide +kernel), List.mem_of_getElem? (i := 546) (by decide +kernel), List.mem_of_getElem? (i := 547) (by decide +kernel)⟩
theorem lw_p18 : lw_okq (⟨"SurveyStore", "joinBase", "(LSurveyStore$BaseRow;III)V"⟩, 14) := ⟨⟨by decide +kernel, by decide +kernel⟩, List.mem_of_getElem? (i := 17) (by decide +kernel), List.mem_of_getElem? (i := 560) (by decide +kernel), List.mem_of_getElem? (i := 561) (by decide +kernel)⟩
theorem lw_p19 : lw_okq (⟨"SurveyStore", "mergeCells", "([J[J[ILSurveyStore$Conflicts;)V"⟩, 14) := ⟨⟨by decide +kernel, by decide +kernel⟩, List.mem_of_getElem? (i := 17) (by decide +kernel), List.mem_of_getElem? (i := 614) (by decide +kernel), List.mem_of_getElem? (i := 615) (by decide +kernel)⟩
theorem lw_p20 : lw_okq (⟨"SurveyStoreModel", "isCommit", "(I)Z"⟩, 28) := ⟨⟨by decide +kernel, by decide +kernel⟩, List.mem_of_getElem? (i := 645) (by decide +kernel), List.mem_of_getElem? (i := 754) (by decide +kernel), List.mem_of_getElem? (i := 755) (by decide +kernel)⟩
theorem lw_p21 : lw_okq (⟨"SurveyStoreModel", "become", "(II)V"⟩, 28) := ⟨⟨by decide +kernel, by decide +kernel⟩, List.mem_of_getElem? (i := 645) (by decide +kernel), List.mem_of_getElem? (i := 758) (by decide +kernel), List.mem_of_getElem? (i := 759) (by decide +kernel)⟩
theorem lw_p22 : lw_okq (⟨"SurveyStoreModel", "isBranch", "(I)Z"⟩, 28) := ⟨⟨by decide +kernel, by decide +kernel⟩, List.mem_of_getElem? (i := 645) (by decide +kernel), List.mem_of_getElem? (i := 766) (by decide +kernel), List.mem_of_getElem? (i := 767) (by decide +kernel)⟩
theorem lw_p23 : lw_okq (⟨"SurveyStoreModel", "fails", "(Z)Z"⟩, 28) := ⟨⟨by decide +kernel, by decide +kernel⟩, List.mem_of_getElem? (i := 645) (by decide +kernel), List.mem_of_getElem? (i := 783) (by decide +kernel), List.mem_of_getElem? (i := 784) (by decide +kernel)⟩
theorem lw_p24 : lw_okq (⟨"SurveyStoreModel", "give", "(III)V"⟩, 28) := ⟨⟨by decide +kernel, by decide +kernel⟩, List.mem_of_getElem? (i := 645) (by decide +kernel), List.mem_of_getElem? (i := 790) (by decide +kernel), List.mem_of_getElem? (i := 791) (by decide +kernel)⟩
theorem lw_p25 : lw_okq (⟨"SurveyStoreModel", "meets", "(IIII)Z"⟩, 28) := ⟨⟨by decide +kernel, by decide +kernel⟩, List.mem_of_getElem? (i := 645) (by decide +kernel), List.mem_of_getElem? (i := 803) (by decide +kernel), List.mem_of_getElem? (i := 804) (by decide +kernel)⟩
theorem lw_p26 : lw_okq (⟨"SurveyStoreModel", "isChanged", "(I)Z"⟩, 28) := ⟨⟨by decide +kernel, by decide +kernel⟩, List.mem_of_getElem? (i := 645) (by decide +kernel), List.mem_of_getElem? (i := 827) (by decide +kernel), List.mem_of_getElem? (i := 828) (by decide +kernel)⟩
theorem lw_p27 : lw_okq (⟨"SurveyStoreModel", "unsettled", "(I)I"⟩, 28) := ⟨⟨by decide +kernel, by decide +kernel⟩, List.mem_of_getElem? (i := 645) (by decide +kernel), List.mem_of_getElem? (i := 831) (by decide +kernel), List.mem_of_getElem? (i := 832) (by decide +kernel)⟩
theorem lw_p28 : lw_okq (⟨"SurveyStoreModel", "ancestors", "(I)I"⟩, 28) := ⟨⟨by decide +kernel, by decide +kernel⟩, List.mem_of_getElem? (i := 645) (by decide +kernel), List.mem_of_getElem? (i := 839) (by decide +kernel), List.mem_of_getElem? (i := 840) (by decide +kernel)⟩
theorem lw_p29 : lw_okq (⟨"SurveyStoreModel", "base", "(II)V"⟩, 28) := ⟨⟨by decide +kernel, by decide +kernel⟩, List.mem_of_getElem? (i := 645) (by decide +kernel), List.mem_of_getElem? (i := 843) (by decide +kernel), List.mem_of_getElem? (i := 844) (by decide +kernel)⟩
theorem lw_p30 : lw_okq (⟨"SurveyStoreModel", "beginBase", "(III)V"⟩, 28) := ⟨⟨by decide +kernel, by decide +kernel⟩, List.mem_of_getElem? (i := 645) (by decide +kernel), List.mem_of_getElem? (i := 847) (by decide +kernel), List.mem_of_getElem? (i := 848) (by decide +kernel)⟩
theorem lw_p31 : lw_okq (⟨"SurveyStoreModel", "nearestOf", "(II)I"⟩, 28) := ⟨⟨by decide +kernel, by decide +kernel⟩, List.mem_of_getElem? (i := 645) (by decide +kernel), List.mem_of_getElem? (i := 851) (by decide +kernel), List.mem_of_getElem? (i := 852) (by decide +kernel)⟩
def lw_privs_2 : List (MethodName × Nat) := [(⟨"SurveyStore", "baseOf", "(III)LSurveyStore$BaseRow;"⟩, 14), (⟨"SurveyStore", "baseRowAt", "(I)LSurveyStore$BaseRow;"⟩, 14), (⟨"SurveyStore", "joinBase", "(LSurveyStore$BaseRow;III)V"⟩, 14), (⟨"SurveyStore", "mergeCells", "([J[J[ILSurveyStore$Conflicts;)V"⟩, 14), (⟨"SurveyStoreModel", "isCommit", "(I)Z"⟩, 28), (⟨"SurveyStoreModel", "become", "(II)V"⟩, 28), (⟨"SurveyStoreModel", "isBranch", "(I)Z"⟩, 28), (⟨"SurveyStoreModel", "fails", "(Z)Z"⟩, 28), (⟨"SurveyStoreModel", "give", "(III)V"⟩, 28), (⟨"SurveyStoreModel", "meets", "(IIII)Z"⟩, 28), (⟨"SurveyStoreModel", "isChanged", "(I)Z"⟩, 28), (⟨"SurveyStoreModel", "unsettled", "(I)I"⟩, 28), (⟨"SurveyStoreModel", "ancestors", "(I)I"⟩, 28), (⟨"SurveyStoreModel", "base", "(II)V"⟩, 28), (⟨"SurveyStoreModel", "beginBase", "(III)V"⟩, 28), (⟨"SurveyStoreModel", "nearestOf", "(II)I"⟩, 28)]
theorem lw_r2 : ∀ q ∈ lw_privs_2, lw_okq q := List.forall_mem_cons.mpr ⟨lw_p16, List.forall_mem_cons.mpr ⟨lw_p17, List.forall_mem_cons.mpr ⟨lw_p18, List.forall_mem_cons.mpr ⟨lw_p19, List.forall_mem_cons.mpr ⟨lw_p20, List.forall_mem_cons.mpr ⟨lw_p21, List.forall_mem_cons.mpr ⟨lw_p22, List.forall_mem_cons.mpr ⟨lw_p23, List.forall_mem_cons.mpr ⟨lw_p24, List.forall_mem_cons.mpr ⟨lw_p25, List.forall_mem_cons.mpr ⟨lw_p26, List.forall_mem_cons.mpr ⟨lw_p27, List.forall_mem_cons.mpr ⟨lw_p28, List.forall_mem_cons.mpr ⟨lw_p29, List.forall_mem_cons.mpr ⟨lw_p30, List.forall_mem_cons.mpr ⟨lw_p31, fun _ h => absurd h List.not_mem_nil⟩⟩⟩⟩⟩⟩⟩⟩⟩⟩⟩⟩⟩⟩⟩⟩
theorem lw_p32 : lw_okq (⟨"SurveyStoreModel", "joinBase", "(II)V"⟩, 28) := ⟨⟨by decide +kernel, by decide +kernel⟩, List.mem_of_getElem? (i := 645) (by decide +kernel), List.mem_of_getElem? (i := 858) (by decide +kernel), List.mem_of_getElem? (i := 859) (by decide +kernel)⟩
theorem lw_p33 : lw_okq (⟨"SurveyStoreModel", "madeIn", "(I)I"⟩, 28) := ⟨⟨by decide +kernel, by decide +kernel⟩, List.mem_of_getElem? (i := 645) (by decide +kernel), List.mem_of_getElem? (i := 862) (by decide +kernel), List.mem_of_getElem? (i := 863) (by decide +kernel)⟩
theorem lw_p34 : lw_okq (⟨"SurveyStoreModel", "note", "(IIIII)V"⟩, 28) := ⟨⟨by decide +kernel, by decide +kernel⟩, List.mem_of_getElem? (i := 645) (by decide +kernel), List.mem_of_getElem? (i := 866) (by decide +kernel), List.mem_of_getElem? (i := 867) (by decide +kernel)⟩
theorem lw_p35 : lw_okq (⟨"SurveyStoreModel", "isConflict", "(II)Z"⟩, 28) := ⟨⟨by decide +kernel, by decide +kernel⟩, List.mem_of_getElem? (i := 645) (by decide +kernel), List.mem_of_getElem? (i := 874) (by decide +kernel), List.mem_of_getElem? (i := 875) (by decide +kernel)⟩
theorem lw_p36 : lw_okq (⟨"SurveyStoreModel", "isCell", "(IIII)Z"⟩, 28) := ⟨⟨by decide +kernel, by decide +kernel⟩, List.mem_of_getElem? (i := 645) (by decide +kernel), List.mem_of_getElem? (i := 886) (by decide +kernel), List.mem_of_getElem? (i := 887) (by decide +kernel)⟩
theorem lw_p37 : lw_okq (⟨"SurveyStoreModel", "isPlace", "(I)Z"⟩, 28) := ⟨⟨by decide +kernel, by decide +kernel⟩, List.mem_of_getElem? (i := 645) (by decide +kernel), List.mem_of_getElem? (i := 890) (by decide +kernel), List.mem_of_getElem? (i := 891) (by decide +kernel)⟩
theorem lw_p38 : lw_okq (⟨"SurveyStoreModel", "isNew", "(I)Z"⟩, 28) := ⟨⟨by decide +kernel, by decide +kernel⟩, List.mem_of_getElem? (i := 645) (by decide +kernel), List.mem_of_getElem? (i := 922) (by decide +kernel), List.mem_of_getElem? (i := 923) (by decide +kernel)⟩
theorem lw_p39 : lw_okq (⟨"SurveyStoreModel", "sameBlock", "(II)Z"⟩, 28) := ⟨⟨by decide +kernel, by decide +kernel⟩, List.mem_of_getElem? (i := 645) (by decide +kernel), List.mem_of_getElem? (i := 926) (by decide +kernel), List.mem_of_getElem? (i := 927) (by decide +kernel)⟩
def lw_privs_3 : List (MethodName × Nat) := [(⟨"SurveyStoreModel", "joinBase", "(II)V"⟩, 28), (⟨"SurveyStoreModel", "madeIn", "(I)I"⟩, 28), (⟨"SurveyStoreModel", "note", "(IIIII)V"⟩, 28), (⟨"SurveyStoreModel", "isConflict", "(II)Z"⟩, 28), (⟨"SurveyStoreModel", "isCell", "(IIII)Z"⟩, 28), (⟨"SurveyStoreModel", "isPlace", "(I)Z"⟩, 28), (⟨"SurveyStoreModel", "isNew", "(I)Z"⟩, 28), (⟨"SurveyStoreModel", "sameBlock", "(II)Z"⟩, 28)]
theorem lw_r3 : ∀ q ∈ lw_privs_3, lw_okq q := List.forall_mem_cons.mpr ⟨lw_p32, List.forall_mem_cons.mpr ⟨lw_p33, List.forall_mem_cons.mpr ⟨lw_p34, List.forall_mem_cons.mpr ⟨lw_p35, List.forall_mem_cons.mpr ⟨lw_p36, List.forall_mem_cons.mpr ⟨lw_p37, List.forall_mem_cons.mpr ⟨lw_p38, List.forall_mem_cons.mpr ⟨lw_p39, fun _ h => absurd h List.not_mem_nil⟩⟩⟩⟩⟩⟩⟩⟩
def lw_privs : List (MethodName × Nat) := lw_privs_1 ++ (lw_privs_2 ++ (lw_privs_3))
def lw_tbl : List Cond := k2_sels lw_privs ++ tables_1
theorem lw_privs_ok : ∀ q ∈ lw_privs, lw_okq q := by
  show ∀ q ∈ lw_privs_1 ++ (lw_privs_2 ++ (lw_privs_3)), lw_okq q
  exact List.forall_mem_append.mpr ⟨lw_r1, List.forall_mem_append.mpr ⟨lw_r2, lw_r3⟩⟩
end
section
def zNar : List Cond := [.isRef (.static "java/lang/Throwable" "UNASSIGNED_STACK" "[Ljava/lang/StackTraceElement;"), .isRef (.static "java/lang/Throwable" "SUPPRESSED_SENTINEL" "Ljava/util/List;"), .not (.castable "java/lang/IllegalStateException" "java/lang/IllegalArgumentException")]
def zTW : List Cond := lw_tbl ++ zNar
theorem zinT {w : Cond} (h : w ∈ tables_1) : w ∈ zTW := List.mem_append_left _ (List.mem_append_right _ h)
theorem zin1 {w : Cond} (h : w ∈ tables_1_1) : w ∈ zTW := zinT (List.mem_append_left _ (h))
theorem zin2 {w : Cond} (h : w ∈ tables_1_2) : w ∈ zTW := zinT (List.mem_append_right _ (List.mem_append_left _ (h)))
theorem zin3 {w : Cond} (h : w ∈ tables_1_3) : w ∈ zTW := zinT (List.mem_append_right _ (List.mem_append_right _ (List.mem_append_left _ (h))))
theorem zin4 {w : Cond} (h : w ∈ tables_1_4) : w ∈ zTW := zinT (List.mem_append_right _ (List.mem_append_right _ (List.mem_append_right _ (h))))
theorem qn0 : zNar.getD 0 (.initialized "") ∈ zTW := List.mem_append_right _ (List.mem_of_getElem? (i := 0) rfl)
theorem qn1 : zNar.getD 1 (.initialized "") ∈ zTW := List.mem_append_right _ (List.mem_of_getElem? (i := 1) rfl)
theorem qn2 : zNar.getD 2 (.initialized "") ∈ zTW := List.mem_append_right _ (List.mem_of_getElem? (i := 2) rfl)
theorem q0 : (Jvm.Cond.initialized "SurveyStoreLaw") ∈ zTW := zin1 (List.mem_of_getElem? (i := 0) rfl)
theorem q1 : (Jvm.Cond.initialized "SurveyStore") ∈ zTW := zin1 (List.mem_of_getElem? (i := 1) rfl)
theorem q2 : (Jvm.Cond.initialized "java/util/Arrays") ∈ zTW := zin1 (List.mem_of_getElem? (i := 2) rfl)
theorem q3 : (Jvm.Cond.initialized "SurveyStore$Commit") ∈ zTW := zin1 (List.mem_of_getElem? (i := 3) rfl)
theorem q4 : (Jvm.Cond.initialized "SurveyStore$Branch") ∈ zTW := zin1 (List.mem_of_getElem? (i := 4) rfl)
theorem q5 : (Jvm.Cond.initialized "java/lang/System") ∈ zTW := zin1 (List.mem_of_getElem? (i := 5) rfl)
theorem q6 : (Jvm.Cond.initialized "SurveyStoreModel") ∈ zTW := zin1 (List.mem_of_getElem? (i := 6) rfl)
theorem q7 : (Jvm.Cond.initialized "java/lang/Throwable") ∈ zTW := zin1 (List.mem_of_getElem? (i := 7) rfl)
theorem q8 : (Jvm.Cond.initialized "java/lang/Exception") ∈ zTW := zin1 (List.mem_of_getElem? (i := 8) rfl)
theorem q9 : (Jvm.Cond.initialized "java/lang/RuntimeException") ∈ zTW := zin1 (List.mem_of_getElem? (i := 9) rfl)
theorem q10 : (Jvm.Cond.initialized "java/lang/IllegalArgumentException") ∈ zTW := zin1 (List.mem_of_getElem? (i := 10) rfl)
theorem q11 : (Jvm.Cond.initialized "java/lang/IllegalStateException") ∈ zTW := zin1 (List.mem_of_getElem? (i := 11) rfl)
theorem q12 : (Jvm.Cond.initialized "java/lang/Math") ∈ zTW := zin1 (List.mem_of_getElem? (i := 12) rfl)
theorem q13 : (Jvm.Cond.initialized "SurveyStore$BaseRow") ∈ zTW := zin1 (List.mem_of_getElem? (i := 13) rfl)
theorem q14 : (Jvm.Cond.initialized "SurveyStore$Conflicts") ∈ zTW := zin1 (List.mem_of_getElem? (i := 14) rfl)
theorem q15 : (Jvm.Cond.initialized "SurveyStore$BlockTable") ∈ zTW := zin1 (List.mem_of_getElem? (i := 15) rfl)
theorem q16 : (Jvm.Cond.classLink "SurveyStoreLaw" (8 : Nat) "SurveyStore") ∈ zTW := zin1 (List.mem_of_getElem? (i := 16) rfl)
theorem q17 : (Jvm.Cond.instantiable "SurveyStore" (14 : Nat)) ∈ zTW := zin1 (List.mem_of_getElem? (i := 17) rfl)
theorem q18 : (Jvm.Cond.methodLink "SurveyStoreLaw" (50 : Nat) ({ cls := "SurveyStore", name := "<init>", desc := "()V" } : Jvm.MethodName)) ∈ zTW := zin1 (List.mem_of_getElem? (i := 18) rfl)
theorem q19 : (Jvm.Cond.instanceMethod ({ cls := "SurveyStore", name := "<init>", desc := "()V" } : Jvm.MethodName)) ∈ zTW := zin1 (List.mem_of_getElem? (i := 19) rfl)
theorem q20 : (Jvm.Cond.code ({ cls := "SurveyStore", name := "<init>", desc := "()V" } : Jvm.MethodName) prog_1_method_1_code (2 : Nat) (Option.none : Option Jvm.ClassFile.FieldType)) ∈ zTW := zin1 (List.mem_of_getElem? (i := 20) rfl)
theorem q21 : (Jvm.Cond.methodLink "SurveyStore" (3 : Nat) ({ cls := "java/lang/Object", name := "<init>", desc := "()V" } : Jvm.MethodName)) ∈ zTW := zin1 (List.mem_of_getElem? (i := 21) rfl)
theorem q22 : (Jvm.Cond.instanceMethod ({ cls := "java/lang/Object", name := "<init>", desc := "()V" } : Jvm.MethodName)) ∈ zTW := zin1 (List.mem_of_getElem? (i := 22) rfl)
theorem q23 : (Jvm.Cond.code ({ cls := "java/lang/Object", name := "<init>", desc := "()V" } : Jvm.MethodName) object_method_1_code (1 : Nat) (Option.none : Option Jvm.ClassFile.FieldType)) ∈ zTW := zin1 (List.mem_of_getElem? (i := 23) rfl)
theorem q24 : (Jvm.Cond.classLink "SurveyStore" (13 : Nat) "SurveyStore$Commit") ∈ zTW := zin1 (List.mem_of_getElem? (i := 24) rfl)
theorem q25 : (Jvm.Cond.arrayOver (Jvm.ClassFile.FieldType.object "SurveyStore$Commit")) ∈ zTW := zin1 (List.mem_of_getElem? (i := 25) rfl)
theorem q26 : (Jvm.Cond.classLink "SurveyStore" (19 : Nat) "SurveyStore$Branch") ∈ zTW := zin1 (List.mem_of_getElem? (i := 26) rfl)
theorem q27 : (Jvm.Cond.arrayOver (Jvm.ClassFile.FieldType.object "SurveyStore$Branch")) ∈ zTW := zin1 (List.mem_of_getElem? (i := 27) rfl)
theorem q28 : (Jvm.Cond.classLink "SurveyStore" (37 : Nat) "SurveyStore$BaseRow") ∈ zTW := zin1 (List.mem_of_getElem? (i := 28) rfl)
theorem q29 : (Jvm.Cond.arrayOver (Jvm.ClassFile.FieldType.object "SurveyStore$BaseRow")) ∈ zTW := zin1 (List.mem_of_getElem? (i := 29) rfl)
theorem q30 : (Jvm.Cond.constantLong "SurveyStore" (43 : Nat) (-9223372036854775808 : Int64)) ∈ zTW := zin1 (List.mem_of_getElem? (i := 30) rfl)
theorem q31 : (Jvm.Cond.methodLink "SurveyStore" (45 : Nat) ({ cls := "java/util/Arrays", name := "fill", desc := "([JJ)V" } : Jvm.MethodName)) ∈ zTW := zin1 (List.mem_of_getElem? (i := 31) rfl)
theorem q32 : (Jvm.Cond.static ({ cls := "java/util/Arrays", name := "fill", desc := "([JJ)V" } : Jvm.MethodName)) ∈ zTW := zin1 (List.mem_of_getElem? (i := 32) rfl)
theorem q33 : (Jvm.Cond.code ({ cls := "java/util/Arrays", name := "fill", desc := "([JJ)V" } : Jvm.MethodName) prog_17_method_101_code (5 : Nat) (Option.none : Option Jvm.ClassFile.FieldType)) ∈ zTW := zin1 (List.mem_of_getElem? (i := 33) rfl)
theorem q34 : (Jvm.Cond.instantiable "SurveyStore$Commit" (4 : Nat)) ∈ zTW := zin1 (List.mem_of_getElem? (i := 34) rfl)
theorem q35 : (Jvm.Cond.methodLink "SurveyStore" (51 : Nat) ({ cls := "SurveyStore$Commit", name := "<init>", desc := "(III[J)V" } : Jvm.MethodName)) ∈ zTW := zin1 (List.mem_of_getElem? (i := 35) rfl)
theorem q36 : (Jvm.Cond.instanceMethod ({ cls := "SurveyStore$Commit", name := "<init>", desc := "(III[J)V" } : Jvm.MethodName)) ∈ zTW := zin1 (List.mem_of_getElem? (i := 36) rfl)
theorem q37 : (Jvm.Cond.code ({ cls := "SurveyStore$Commit", name := "<init>", desc := "(III[J)V" } : Jvm.MethodName) prog_5_method_1_code (5 : Nat) (Option.none : Option Jvm.ClassFile.FieldType)) ∈ zTW := zin1 (List.mem_of_getElem? (i := 37) rfl)
theorem q38 : (Jvm.Cond.methodLink "SurveyStore$Commit" (1 : Nat) ({ cls := "java/lang/Object", name := "<init>", desc := "()V" } : Jvm.MethodName)) ∈ zTW := zin1 (List.mem_of_getElem? (i := 38) rfl)
theorem q39 : (Jvm.Cond.fieldLink "SurveyStore$Commit" (7 : Nat) "SurveyStore$Commit" "firstParent" "I") ∈ zTW := zin1 (List.mem_of_getElem? (i := 39) rfl)
theorem q40 : (Jvm.Cond.fieldLink "SurveyStore" (335 : Nat) "SurveyStore$Commit" "firstParent" "I") ∈ zTW := zin1 (List.mem_of_getElem? (i := 40) rfl)
theorem q41 : (Jvm.Cond.fieldLink "SurveyStore$Commit" (13 : Nat) "SurveyStore$Commit" "secondParent" "I") ∈ zTW := zin1 (List.mem_of_getElem? (i := 41) rfl)
theorem q42 : (Jvm.Cond.fieldLink "SurveyStore" (338 : Nat) "SurveyStore$Commit" "secondParent" "I") ∈ zTW := zin1 (List.mem_of_getElem? (i := 42) rfl)
theorem q43 : (Jvm.Cond.fieldLink "SurveyStore$Commit" (16 : Nat) "SurveyStore$Commit" "ancestors" "I") ∈ zTW := zin1 (List.mem_of_getElem? (i := 43) rfl)
theorem q44 : (Jvm.Cond.fieldLink "SurveyStore" (304 : Nat) "SurveyStore$Commit" "ancestors" "I") ∈ zTW := zin1 (List.mem_of_getElem? (i := 44) rfl)
theorem q45 : (Jvm.Cond.fieldLink "SurveyStore$Commit" (19 : Nat) "SurveyStore$Commit" "cells" "[J") ∈ zTW := zin1 (List.mem_of_getElem? (i := 45) rfl)
theorem q46 : (Jvm.Cond.fieldLink "SurveyStore" (91 : Nat) "SurveyStore$Commit" "cells" "[J") ∈ zTW := zin1 (List.mem_of_getElem? (i := 46) rfl)
theorem q47 : (Jvm.Cond.laysFinal "SurveyStore$Commit" "SurveyStore$Commit" "firstParent" "I") ∈ zTW := zin1 (List.mem_of_getElem? (i := 47) rfl)
theorem q48 : (Jvm.Cond.soleField "SurveyStore$Commit" "firstParent") ∈ zTW := zin1 (List.mem_of_getElem? (i := 48) rfl)
theorem q49 : (Jvm.Cond.laysFinal "SurveyStore$Commit" "SurveyStore$Commit" "secondParent" "I") ∈ zTW := zin1 (List.mem_of_getElem? (i := 49) rfl)
theorem q50 : (Jvm.Cond.soleField "SurveyStore$Commit" "secondParent") ∈ zTW := zin1 (List.mem_of_getElem? (i := 50) rfl)
theorem q51 : (Jvm.Cond.laysFinal "SurveyStore$Commit" "SurveyStore$Commit" "ancestors" "I") ∈ zTW := zin1 (List.mem_of_getElem? (i := 51) rfl)
theorem q52 : (Jvm.Cond.soleField "SurveyStore$Commit" "ancestors") ∈ zTW := zin1 (List.mem_of_getElem? (i := 52) rfl)
theorem q53 : (Jvm.Cond.laysFinal "SurveyStore$Commit" "SurveyStore$Commit" "cells" "[J") ∈ zTW := zin1 (List.mem_of_getElem? (i := 53) rfl)
theorem q54 : (Jvm.Cond.soleField "SurveyStore$Commit" "cells") ∈ zTW := zin1 (List.mem_of_getElem? (i := 54) rfl)
theorem q55 : (Jvm.Cond.superclass "SurveyStore$Commit" "java/lang/Object") ∈ zTW := zin1 (List.mem_of_getElem? (i := 55) rfl)
theorem q56 : (Jvm.Cond.arrayClass Jvm.ClassFile.FieldType.int) ∈ zTW := zin1 (List.mem_of_getElem? (i := 56) rfl)
theorem q57 : (Jvm.Cond.arrayClass Jvm.ClassFile.FieldType.long) ∈ zTW := zin1 (List.mem_of_getElem? (i := 57) rfl)
theorem q58 : (Jvm.Cond.instantiable "SurveyStore$Branch" (5 : Nat)) ∈ zTW := zin1 (List.mem_of_getElem? (i := 58) rfl)
theorem q59 : (Jvm.Cond.methodLinkNest "SurveyStore" (58 : Nat) ({ cls := "SurveyStore$Branch", name := "<init>", desc := "()V" } : Jvm.MethodName) "SurveyStore") ∈ zTW := zin1 (List.mem_of_getElem? (i := 59) rfl)
theorem q60 : (Jvm.Cond.instanceMethod ({ cls := "SurveyStore$Branch", name := "<init>", desc := "()V" } : Jvm.MethodName)) ∈ zTW := zin1 (List.mem_of_getElem? (i := 60) rfl)
theorem q61 : (Jvm.Cond.code ({ cls := "SurveyStore$Branch", name := "<init>", desc := "()V" } : Jvm.MethodName) prog_4_method_1_code (1 : Nat) (Option.none : Option Jvm.ClassFile.FieldType)) ∈ zTW := zin1 (List.mem_of_getElem? (i := 61) rfl)
theorem q62 : (Jvm.Cond.methodLink "SurveyStore$Branch" (3 : Nat) ({ cls := "java/lang/Object", name := "<init>", desc := "()V" } : Jvm.MethodName)) ∈ zTW := zin1 (List.mem_of_getElem? (i := 62) rfl)
theorem q63 : (Jvm.Cond.fieldLink "SurveyStore$Branch" (9 : Nat) "SurveyStore$Branch" "cells" "[J") ∈ zTW := zin1 (List.mem_of_getElem? (i := 63) rfl)
theorem q64 : (Jvm.Cond.fieldLink "SurveyStore" (132 : Nat) "SurveyStore$Branch" "cells" "[J") ∈ zTW := zin1 (List.mem_of_getElem? (i := 64) rfl)
theorem q65 : (Jvm.Cond.fieldLink "SurveyStore$Branch" (21 : Nat) "SurveyStore$Branch" "there" "Z") ∈ zTW := zin1 (List.mem_of_getElem? (i := 65) rfl)
theorem q66 : (Jvm.Cond.fieldLink "SurveyStore" (95 : Nat) "SurveyStore$Branch" "there" "Z") ∈ zTW := zin1 (List.mem_of_getElem? (i := 66) rfl)
theorem q67 : (Jvm.Cond.fieldLink "SurveyStore$Branch" (29 : Nat) "SurveyStore$Branch" "head" "I") ∈ zTW := zin1 (List.mem_of_getElem? (i := 67) rfl)
theorem q68 : (Jvm.Cond.fieldLink "SurveyStore" (169 : Nat) "SurveyStore$Branch" "head" "I") ∈ zTW := zin1 (List.mem_of_getElem? (i := 68) rfl)
theorem q69 : (Jvm.Cond.fieldLink "SurveyStore$Branch" (33 : Nat) "SurveyStore$Branch" "merging" "I") ∈ zTW := zin1 (List.mem_of_getElem? (i := 69) rfl)
theorem q70 : (Jvm.Cond.fieldLink "SurveyStore" (175 : Nat) "SurveyStore$Branch" "merging" "I") ∈ zTW := zin1 (List.mem_of_getElem? (i := 70) rfl)
theorem q71 : (Jvm.Cond.fieldLink "SurveyStore$Branch" (36 : Nat) "SurveyStore$Branch" "conflicts" "LSurveyStore$Conflicts;") ∈ zTW := zin1 (List.mem_of_getElem? (i := 71) rfl)
theorem q72 : (Jvm.Cond.fieldLink "SurveyStore" (209 : Nat) "SurveyStore$Branch" "conflicts" "LSurveyStore$Conflicts;") ∈ zTW := zin1 (List.mem_of_getElem? (i := 72) rfl)
theorem q73 : (Jvm.Cond.laysFinal "SurveyStore$Branch" "SurveyStore$Branch" "cells" "[J") ∈ zTW := zin1 (List.mem_of_getElem? (i := 73) rfl)
theorem q74 : (Jvm.Cond.soleField "SurveyStore$Branch" "cells") ∈ zTW := zin1 (List.mem_of_getElem? (i := 74) rfl)
theorem q75 : (Jvm.Cond.lays "SurveyStore$Branch" "SurveyStore$Branch" "there" "Z") ∈ zTW := zin1 (List.mem_of_getElem? (i := 75) rfl)
theorem q76 : (Jvm.Cond.soleField "SurveyStore$Branch" "there") ∈ zTW := zin1 (List.mem_of_getElem? (i := 76) rfl)
theorem q77 : (Jvm.Cond.lays "SurveyStore$Branch" "SurveyStore$Branch" "head" "I") ∈ zTW := zin1 (List.mem_of_getElem? (i := 77) rfl)
theorem q78 : (Jvm.Cond.soleField "SurveyStore$Branch" "head") ∈ zTW := zin1 (List.mem_of_getElem? (i := 78) rfl)
theorem q79 : (Jvm.Cond.lays "SurveyStore$Branch" "SurveyStore$Branch" "merging" "I") ∈ zTW := zin1 (List.mem_of_getElem? (i := 79) rfl)
theorem q80 : (Jvm.Cond.soleField "SurveyStore$Branch" "merging") ∈ zTW := zin1 (List.mem_of_getElem? (i := 80) rfl)
theorem q81 : (Jvm.Cond.lays "SurveyStore$Branch" "SurveyStore$Branch" "conflicts" "LSurveyStore$Conflicts;") ∈ zTW := zin1 (List.mem_of_getElem? (i := 81) rfl)
theorem q82 : (Jvm.Cond.soleField "SurveyStore$Branch" "conflicts") ∈ zTW := zin1 (List.mem_of_getElem? (i := 82) rfl)
theorem q83 : (Jvm.Cond.superclass "SurveyStore$Branch" "java/lang/Object") ∈ zTW := zin1 (List.mem_of_getElem? (i := 83) rfl)
theorem q84 : (Jvm.Cond.methodLink "SurveyStore" (59 : Nat) ({ cls := "SurveyStore$Branch", name := "startAt", desc := "(I[J)V" } : Jvm.MethodName)) ∈ zTW := zin1 (List.mem_of_getElem? (i := 84) rfl)
theorem q85 : (Jvm.Cond.instanceMethod ({ cls := "SurveyStore$Branch", name := "startAt", desc := "(I[J)V" } : Jvm.MethodName)) ∈ zTW := zin1 (List.mem_of_getElem? (i := 85) rfl)
theorem q86 : (Jvm.Cond.selects "SurveyStore$Branch" ({ cls := "SurveyStore$Branch", name := "startAt", desc := "(I[J)V" } : Jvm.MethodName) ({ cls := "SurveyStore$Branch", name := "startAt", desc := "(I[J)V" } : Jvm.MethodName)) ∈ zTW := zin1 (List.mem_of_getElem? (i := 86) rfl)
theorem q87 : (Jvm.Cond.code ({ cls := "SurveyStore$Branch", name := "startAt", desc := "(I[J)V" } : Jvm.MethodName) prog_4_method_2_code (3 : Nat) (Option.none : Option Jvm.ClassFile.FieldType)) ∈ zTW := zin1 (List.mem_of_getElem? (i := 87) rfl)
theorem q88 : (Jvm.Cond.methodLink "SurveyStore$Branch" (15 : Nat) ({ cls := "java/lang/System", name := "arraycopy", desc := "(Ljava/lang/Object;ILjava/lang/Object;II)V" } : Jvm.MethodName)) ∈ zTW := zin1 (List.mem_of_getElem? (i := 88) rfl)
theorem q89 : (Jvm.Cond.static ({ cls := "java/lang/System", name := "arraycopy", desc := "(Ljava/lang/Object;ILjava/lang/Object;II)V" } : Jvm.MethodName)) ∈ zTW := zin1 (List.mem_of_getElem? (i := 89) rfl)
theorem q90 : (Jvm.Cond.native ({ cls := "java/lang/System", name := "arraycopy", desc := "(Ljava/lang/Object;ILjava/lang/Object;II)V" } : Jvm.MethodName)) ∈ zTW := zin1 (List.mem_of_getElem? (i := 90) rfl)
theorem q91 : (Jvm.Cond.methodLink "SurveyStore$Branch" (25 : Nat) ({ cls := "SurveyStore$Branch", name := "restAt", desc := "(I)V" } : Jvm.MethodName)) ∈ zTW := zin1 (List.mem_of_getElem? (i := 91) rfl)
theorem q92 : (Jvm.Cond.instanceMethod ({ cls := "SurveyStore$Branch", name := "restAt", desc := "(I)V" } : Jvm.MethodName)) ∈ zTW := zin1 (List.mem_of_getElem? (i := 92) rfl)
theorem q93 : (Jvm.Cond.selects "SurveyStore$Branch" ({ cls := "SurveyStore$Branch", name := "restAt", desc := "(I)V" } : Jvm.MethodName) ({ cls := "SurveyStore$Branch", name := "restAt", desc := "(I)V" } : Jvm.MethodName)) ∈ zTW := zin1 (List.mem_of_getElem? (i := 93) rfl)
theorem q94 : (Jvm.Cond.code ({ cls := "SurveyStore$Branch", name := "restAt", desc := "(I)V" } : Jvm.MethodName) prog_4_method_3_code (2 : Nat) (Option.none : Option Jvm.ClassFile.FieldType)) ∈ zTW := zin1 (List.mem_of_getElem? (i := 94) rfl)
theorem q95 : (Jvm.Cond.methodLink "SurveyStore$Branch" (40 : Nat) ({ cls := "SurveyStore$Conflicts", name := "forget", desc := "()V" } : Jvm.MethodName)) ∈ zTW := zin1 (List.mem_of_getElem? (i := 95) rfl)
theorem q96 : (Jvm.Cond.instanceMethod ({ cls := "SurveyStore$Conflicts", name := "forget", desc := "()V" } : Jvm.MethodName)) ∈ zTW := zin1 (List.mem_of_getElem? (i := 96) rfl)
theorem q97 : (Jvm.Cond.selects "SurveyStore$Conflicts" ({ cls := "SurveyStore$Conflicts", name := "forget", desc := "()V" } : Jvm.MethodName) ({ cls := "SurveyStore$Conflicts", name := "forget", desc := "()V" } : Jvm.MethodName)) ∈ zTW := zin1 (List.mem_of_getElem? (i := 97) rfl)
theorem q98 : (Jvm.Cond.code ({ cls := "SurveyStore$Conflicts", name := "forget", desc := "()V" } : Jvm.MethodName) prog_6_method_2_code (1 : Nat) (Option.none : Option Jvm.ClassFile.FieldType)) ∈ zTW := zin1 (List.mem_of_getElem? (i := 98) rfl)
theorem q99 : (Jvm.Cond.constant "SurveyStore" (69 : Nat) (-2147483648 : Int32)) ∈ zTW := zin1 (List.mem_of_getElem? (i := 99) rfl)
theorem q100 : (Jvm.Cond.methodLink "SurveyStore" (70 : Nat) ({ cls := "java/util/Arrays", name := "fill", desc := "([II)V" } : Jvm.MethodName)) ∈ zTW := zin1 (List.mem_of_getElem? (i := 100) rfl)
theorem q101 : (Jvm.Cond.static ({ cls := "java/util/Arrays", name := "fill", desc := "([II)V" } : Jvm.MethodName)) ∈ zTW := zin1 (List.mem_of_getElem? (i := 101) rfl)
theorem q102 : (Jvm.Cond.code ({ cls := "java/util/Arrays", name := "fill", desc := "([II)V" } : Jvm.MethodName) prog_17_method_103_code (4 : Nat) (Option.none : Option Jvm.ClassFile.FieldType)) ∈ zTW := zin1 (List.mem_of_getElem? (i := 102) rfl)
theorem q103 : (Jvm.Cond.fieldLink "SurveyStore" (9 : Nat) "SurveyStore" "kinds" "[I") ∈ zTW := zin1 (List.mem_of_getElem? (i := 103) rfl)
theorem q104 : (Jvm.Cond.fieldLink "SurveyStore" (15 : Nat) "SurveyStore" "commits" "[LSurveyStore$Commit;") ∈ zTW := zin1 (List.mem_of_getElem? (i := 104) rfl)
theorem q105 : (Jvm.Cond.fieldLink "SurveyStore" (54 : Nat) "SurveyStore" "made" "I") ∈ zTW := zin1 (List.mem_of_getElem? (i := 105) rfl)
theorem q106 : (Jvm.Cond.fieldLink "SurveyStore" (21 : Nat) "SurveyStore" "branches" "[LSurveyStore$Branch;") ∈ zTW := zin1 (List.mem_of_getElem? (i := 106) rfl)
theorem q107 : (Jvm.Cond.fieldLink "SurveyStore" (103 : Nat) "SurveyStore" "regionX" "I") ∈ zTW := zin1 (List.mem_of_getElem? (i := 107) rfl)
theorem q108 : (Jvm.Cond.fieldLink "SurveyStore" (106 : Nat) "SurveyStore" "regionY" "I") ∈ zTW := zin1 (List.mem_of_getElem? (i := 108) rfl)
theorem q109 : (Jvm.Cond.fieldLink "SurveyStore" (63 : Nat) "SurveyStore" "regionWidth" "I") ∈ zTW := zin1 (List.mem_of_getElem? (i := 109) rfl)
theorem q110 : (Jvm.Cond.fieldLink "SurveyStore" (66 : Nat) "SurveyStore" "regionHeight" "I") ∈ zTW := zin1 (List.mem_of_getElem? (i := 110) rfl)
theorem q111 : (Jvm.Cond.fieldLink "SurveyStore" (25 : Nat) "SurveyStore" "cornerX" "[I") ∈ zTW := zin1 (List.mem_of_getElem? (i := 111) rfl)
theorem q112 : (Jvm.Cond.fieldLink "SurveyStore" (28 : Nat) "SurveyStore" "cornerY" "[I") ∈ zTW := zin1 (List.mem_of_getElem? (i := 112) rfl)
theorem q113 : (Jvm.Cond.fieldLink "SurveyStore" (31 : Nat) "SurveyStore" "entryFrom" "[I") ∈ zTW := zin1 (List.mem_of_getElem? (i := 113) rfl)
theorem q114 : (Jvm.Cond.fieldLink "SurveyStore" (34 : Nat) "SurveyStore" "entryTo" "[I") ∈ zTW := zin1 (List.mem_of_getElem? (i := 114) rfl)
theorem q115 : (Jvm.Cond.fieldLink "SurveyStore" (39 : Nat) "SurveyStore" "baseRows" "[LSurveyStore$BaseRow;") ∈ zTW := zin1 (List.mem_of_getElem? (i := 115) rfl)
theorem q116 : (Jvm.Cond.fieldLink "SurveyStore" (274 : Nat) "SurveyStore" "blockTable" "LSurveyStore$BlockTable;") ∈ zTW := zin1 (List.mem_of_getElem? (i := 116) rfl)
theorem q117 : (Jvm.Cond.laysFinal "SurveyStore" "SurveyStore" "kinds" "[I") ∈ zTW := zin1 (List.mem_of_getElem? (i := 117) rfl)
theorem q118 : (Jvm.Cond.soleField "SurveyStore" "kinds") ∈ zTW := zin1 (List.mem_of_getElem? (i := 118) rfl)
theorem q119 : (Jvm.Cond.laysFinal "SurveyStore" "SurveyStore" "commits" "[LSurveyStore$Commit;") ∈ zTW := zin1 (List.mem_of_getElem? (i := 119) rfl)
theorem q120 : (Jvm.Cond.soleField "SurveyStore" "commits") ∈ zTW := zin1 (List.mem_of_getElem? (i := 120) rfl)
theorem q121 : (Jvm.Cond.lays "SurveyStore" "SurveyStore" "made" "I") ∈ zTW := zin1 (List.mem_of_getElem? (i := 121) rfl)
theorem q122 : (Jvm.Cond.soleField "SurveyStore" "made") ∈ zTW := zin1 (List.mem_of_getElem? (i := 122) rfl)
theorem q123 : (Jvm.Cond.laysFinal "SurveyStore" "SurveyStore" "branches" "[LSurveyStore$Branch;") ∈ zTW := zin1 (List.mem_of_getElem? (i := 123) rfl)
theorem q124 : (Jvm.Cond.soleField "SurveyStore" "branches") ∈ zTW := zin1 (List.mem_of_getElem? (i := 124) rfl)
theorem q125 : (Jvm.Cond.lays "SurveyStore" "SurveyStore" "regionX" "I") ∈ zTW := zin1 (List.mem_of_getElem? (i := 125) rfl)
theorem q126 : (Jvm.Cond.soleField "SurveyStore" "regionX") ∈ zTW := zin1 (List.mem_of_getElem? (i := 126) rfl)
theorem q127 : (Jvm.Cond.lays "SurveyStore" "SurveyStore" "regionY" "I") ∈ zTW := zin1 (List.mem_of_getElem? (i := 127) rfl)
theorem q128 : (Jvm.Cond.soleField "SurveyStore" "regionY") ∈ zTW := zin1 (List.mem_of_getElem? (i := 128) rfl)
theorem q129 : (Jvm.Cond.lays "SurveyStore" "SurveyStore" "regionWidth" "I") ∈ zTW := zin1 (List.mem_of_getElem? (i := 129) rfl)
theorem q130 : (Jvm.Cond.soleField "SurveyStore" "regionWidth") ∈ zTW := zin1 (List.mem_of_getElem? (i := 130) rfl)
theorem q131 : (Jvm.Cond.lays "SurveyStore" "SurveyStore" "regionHeight" "I") ∈ zTW := zin1 (List.mem_of_getElem? (i := 131) rfl)
theorem q132 : (Jvm.Cond.soleField "SurveyStore" "regionHeight") ∈ zTW := zin1 (List.mem_of_getElem? (i := 132) rfl)
theorem q133 : (Jvm.Cond.laysFinal "SurveyStore" "SurveyStore" "cornerX" "[I") ∈ zTW := zin1 (List.mem_of_getElem? (i := 133) rfl)
theorem q134 : (Jvm.Cond.soleField "SurveyStore" "cornerX") ∈ zTW := zin1 (List.mem_of_getElem? (i := 134) rfl)
theorem q135 : (Jvm.Cond.laysFinal "SurveyStore" "SurveyStore" "cornerY" "[I") ∈ zTW := zin1 (List.mem_of_getElem? (i := 135) rfl)
theorem q136 : (Jvm.Cond.soleField "SurveyStore" "cornerY") ∈ zTW := zin1 (List.mem_of_getElem? (i := 136) rfl)
theorem q137 : (Jvm.Cond.laysFinal "SurveyStore" "SurveyStore" "entryFrom" "[I") ∈ zTW := zin1 (List.mem_of_getElem? (i := 137) rfl)
theorem q138 : (Jvm.Cond.soleField "SurveyStore" "entryFrom") ∈ zTW := zin1 (List.mem_of_getElem? (i := 138) rfl)
theorem q139 : (Jvm.Cond.laysFinal "SurveyStore" "SurveyStore" "entryTo" "[I") ∈ zTW := zin1 (List.mem_of_getElem? (i := 139) rfl)
theorem q140 : (Jvm.Cond.soleField "SurveyStore" "entryTo") ∈ zTW := zin1 (List.mem_of_getElem? (i := 140) rfl)
theorem q141 : (Jvm.Cond.laysFinal "SurveyStore" "SurveyStore" "baseRows" "[LSurveyStore$BaseRow;") ∈ zTW := zin1 (List.mem_of_getElem? (i := 141) rfl)
theorem q142 : (Jvm.Cond.soleField "SurveyStore" "baseRows") ∈ zTW := zin1 (List.mem_of_getElem? (i := 142) rfl)
theorem q143 : (Jvm.Cond.lays "SurveyStore" "SurveyStore" "blockTable" "LSurveyStore$BlockTable;") ∈ zTW := zin1 (List.mem_of_getElem? (i := 143) rfl)
theorem q144 : (Jvm.Cond.soleField "SurveyStore" "blockTable") ∈ zTW := zin1 (List.mem_of_getElem? (i := 144) rfl)
theorem q145 : (Jvm.Cond.superclass "SurveyStore" "java/lang/Object") ∈ zTW := zin1 (List.mem_of_getElem? (i := 145) rfl)
theorem q146 : (Jvm.Cond.methodLink "SurveyStoreLaw" (54 : Nat) ({ cls := "SurveyStore", name := "kind", desc := "(II)Z" } : Jvm.MethodName)) ∈ zTW := zin1 (List.mem_of_getElem? (i := 146) rfl)
theorem q147 : (Jvm.Cond.instanceMethod ({ cls := "SurveyStore", name := "kind", desc := "(II)Z" } : Jvm.MethodName)) ∈ zTW := zin1 (List.mem_of_getElem? (i := 147) rfl)
theorem q148 : (Jvm.Cond.selects "SurveyStore" ({ cls := "SurveyStore", name := "kind", desc := "(II)Z" } : Jvm.MethodName) ({ cls := "SurveyStore", name := "kind", desc := "(II)Z" } : Jvm.MethodName)) ∈ zTW := zin1 (List.mem_of_getElem? (i := 148) rfl)
theorem q149 : (Jvm.Cond.code ({ cls := "SurveyStore", name := "kind", desc := "(II)Z" } : Jvm.MethodName) prog_1_method_2_code (3 : Nat) (Option.some Jvm.ClassFile.FieldType.boolean)) ∈ zTW := zin1 (List.mem_of_getElem? (i := 149) rfl)
theorem q150 : (Jvm.Cond.methodLink "SurveyStore" (73 : Nat) ({ cls := "SurveyStore", name := "isLayer", desc := "(I)Z" } : Jvm.MethodName)) ∈ zTW := zin1 (List.mem_of_getElem? (i := 150) rfl)
theorem q151 : (Jvm.Cond.static ({ cls := "SurveyStore", name := "isLayer", desc := "(I)Z" } : Jvm.MethodName)) ∈ zTW := zin1 (List.mem_of_getElem? (i := 151) rfl)
theorem q152 : (Jvm.Cond.code ({ cls := "SurveyStore", name := "isLayer", desc := "(I)Z" } : Jvm.MethodName) prog_1_method_25_code (1 : Nat) (Option.some Jvm.ClassFile.FieldType.boolean)) ∈ zTW := zin1 (List.mem_of_getElem? (i := 152) rfl)
theorem q153 : (Jvm.Cond.methodLink "SurveyStoreLaw" (69 : Nat) ({ cls := "SurveyStore", name := "drop", desc := "(I)Z" } : Jvm.MethodName)) ∈ zTW := zin1 (List.mem_of_getElem? (i := 153) rfl)
theorem q154 : (Jvm.Cond.instanceMethod ({ cls := "SurveyStore", name := "drop", desc := "(I)Z" } : Jvm.MethodName)) ∈ zTW := zin1 (List.mem_of_getElem? (i := 154) rfl)
theorem q155 : (Jvm.Cond.selects "SurveyStore" ({ cls := "SurveyStore", name := "drop", desc := "(I)Z" } : Jvm.MethodName) ({ cls := "SurveyStore", name := "drop", desc := "(I)Z" } : Jvm.MethodName)) ∈ zTW := zin1 (List.mem_of_getElem? (i := 155) rfl)
theorem q156 : (Jvm.Cond.code ({ cls := "SurveyStore", name := "drop", desc := "(I)Z" } : Jvm.MethodName) prog_1_method_4_code (3 : Nat) (Option.some Jvm.ClassFile.FieldType.boolean)) ∈ zTW := zin1 (List.mem_of_getElem? (i := 156) rfl)
theorem q157 : (Jvm.Cond.methodLink "SurveyStore" (84 : Nat) ({ cls := "SurveyStore", name := "branchAt", desc := "(I)LSurveyStore$Branch;" } : Jvm.MethodName)) ∈ zTW := zin1 (List.mem_of_getElem? (i := 157) rfl)
theorem q158 : (Jvm.Cond.privateMethod ({ cls := "SurveyStore", name := "branchAt", desc := "(I)LSurveyStore$Branch;" } : Jvm.MethodName)) ∈ zTW := zin1 (List.mem_of_getElem? (i := 158) rfl)
theorem q159 : (Jvm.Cond.instanceMethod ({ cls := "SurveyStore", name := "branchAt", desc := "(I)LSurveyStore$Branch;" } : Jvm.MethodName)) ∈ zTW := zin1 (List.mem_of_getElem? (i := 159) rfl)
theorem q160 : (Jvm.Cond.code ({ cls := "SurveyStore", name := "branchAt", desc := "(I)LSurveyStore$Branch;" } : Jvm.MethodName) prog_1_method_42_code (2 : Nat) (Option.some (Jvm.ClassFile.FieldType.object "SurveyStore$Branch"))) ∈ zTW := zin1 (List.mem_of_getElem? (i := 160) rfl)
theorem q161 : (Jvm.Cond.methodLink "SurveyStoreLaw" (74 : Nat) ({ cls := "SurveyStore", name := "region", desc := "(IIII)Z" } : Jvm.MethodName)) ∈ zTW := zin1 (List.mem_of_getElem? (i := 161) rfl)
theorem q162 : (Jvm.Cond.instanceMethod ({ cls := "SurveyStore", name := "region", desc := "(IIII)Z" } : Jvm.MethodName)) ∈ zTW := zin1 (List.mem_of_getElem? (i := 162) rfl)
theorem q163 : (Jvm.Cond.selects "SurveyStore" ({ cls := "SurveyStore", name := "region", desc := "(IIII)Z" } : Jvm.MethodName) ({ cls := "SurveyStore", name := "region", desc := "(IIII)Z" } : Jvm.MethodName)) ∈ zTW := zin1 (List.mem_of_getElem? (i := 163) rfl)
theorem q164 : (Jvm.Cond.code ({ cls := "SurveyStore", name := "region", desc := "(IIII)Z" } : Jvm.MethodName) prog_1_method_5_code (5 : Nat) (Option.some Jvm.ClassFile.FieldType.boolean)) ∈ zTW := zin1 (List.mem_of_getElem? (i := 164) rfl)
theorem q165 : (Jvm.Cond.methodLink "SurveyStore" (99 : Nat) ({ cls := "SurveyStore", name := "fits", desc := "(II)Z" } : Jvm.MethodName)) ∈ zTW := zin1 (List.mem_of_getElem? (i := 165) rfl)
theorem q166 : (Jvm.Cond.static ({ cls := "SurveyStore", name := "fits", desc := "(II)Z" } : Jvm.MethodName)) ∈ zTW := zin1 (List.mem_of_getElem? (i := 166) rfl)
theorem q167 : (Jvm.Cond.code ({ cls := "SurveyStore", name := "fits", desc := "(II)Z" } : Jvm.MethodName) prog_1_method_29_code (2 : Nat) (Option.some Jvm.ClassFile.FieldType.boolean)) ∈ zTW := zin1 (List.mem_of_getElem? (i := 167) rfl)
theorem q168 : (Jvm.Cond.methodLink "SurveyStoreLaw" (83 : Nat) ({ cls := "SurveyStore", name := "corner", desc := "(III)Z" } : Jvm.MethodName)) ∈ zTW := zin1 (List.mem_of_getElem? (i := 168) rfl)
theorem q169 : (Jvm.Cond.instanceMethod ({ cls := "SurveyStore", name := "corner", desc := "(III)Z" } : Jvm.MethodName)) ∈ zTW := zin1 (List.mem_of_getElem? (i := 169) rfl)
theorem q170 : (Jvm.Cond.selects "SurveyStore" ({ cls := "SurveyStore", name := "corner", desc := "(III)Z" } : Jvm.MethodName) ({ cls := "SurveyStore", name := "corner", desc := "(III)Z" } : Jvm.MethodName)) ∈ zTW := zin1 (List.mem_of_getElem? (i := 170) rfl)
theorem q171 : (Jvm.Cond.code ({ cls := "SurveyStore", name := "corner", desc := "(III)Z" } : Jvm.MethodName) prog_1_method_7_code (4 : Nat) (Option.some Jvm.ClassFile.FieldType.boolean)) ∈ zTW := zin1 (List.mem_of_getElem? (i := 171) rfl)
theorem q172 : (Jvm.Cond.methodLink "SurveyStore" (125 : Nat) ({ cls := "SurveyStore", name := "isPoint", desc := "(I)Z" } : Jvm.MethodName)) ∈ zTW := zin1 (List.mem_of_getElem? (i := 172) rfl)
theorem q173 : (Jvm.Cond.static ({ cls := "SurveyStore", name := "isPoint", desc := "(I)Z" } : Jvm.MethodName)) ∈ zTW := zin1 (List.mem_of_getElem? (i := 173) rfl)
theorem q174 : (Jvm.Cond.code ({ cls := "SurveyStore", name := "isPoint", desc := "(I)Z" } : Jvm.MethodName) prog_1_method_27_code (1 : Nat) (Option.some Jvm.ClassFile.FieldType.boolean)) ∈ zTW := zin1 (List.mem_of_getElem? (i := 174) rfl)
theorem q175 : (Jvm.Cond.methodLink "SurveyStoreLaw" (96 : Nat) ({ cls := "SurveyStore", name := "entry", desc := "(III)Z" } : Jvm.MethodName)) ∈ zTW := zin1 (List.mem_of_getElem? (i := 175) rfl)
theorem q176 : (Jvm.Cond.instanceMethod ({ cls := "SurveyStore", name := "entry", desc := "(III)Z" } : Jvm.MethodName)) ∈ zTW := zin1 (List.mem_of_getElem? (i := 176) rfl)
theorem q177 : (Jvm.Cond.selects "SurveyStore" ({ cls := "SurveyStore", name := "entry", desc := "(III)Z" } : Jvm.MethodName) ({ cls := "SurveyStore", name := "entry", desc := "(III)Z" } : Jvm.MethodName)) ∈ zTW := zin1 (List.mem_of_getElem? (i := 177) rfl)
theorem q178 : (Jvm.Cond.code ({ cls := "SurveyStore", name := "entry", desc := "(III)Z" } : Jvm.MethodName) prog_1_method_10_code (4 : Nat) (Option.some Jvm.ClassFile.FieldType.boolean)) ∈ zTW := zin1 (List.mem_of_getElem? (i := 178) rfl)
theorem q179 : (Jvm.Cond.methodLink "SurveyStore" (139 : Nat) ({ cls := "SurveyStore", name := "isValue", desc := "(I)Z" } : Jvm.MethodName)) ∈ zTW := zin1 (List.mem_of_getElem? (i := 179) rfl)
theorem q180 : (Jvm.Cond.static ({ cls := "SurveyStore", name := "isValue", desc := "(I)Z" } : Jvm.MethodName)) ∈ zTW := zin1 (List.mem_of_getElem? (i := 180) rfl)
theorem q181 : (Jvm.Cond.code ({ cls := "SurveyStore", name := "isValue", desc := "(I)Z" } : Jvm.MethodName) prog_1_method_28_code (1 : Nat) (Option.some Jvm.ClassFile.FieldType.boolean)) ∈ zTW := zin1 (List.mem_of_getElem? (i := 181) rfl)
theorem q182 : (Jvm.Cond.constant "SurveyStore" (288 : Nat) (-1000000 : Int32)) ∈ zTW := zin1 (List.mem_of_getElem? (i := 182) rfl)
theorem q183 : (Jvm.Cond.constant "SurveyStore" (289 : Nat) (1000000 : Int32)) ∈ zTW := zin1 (List.mem_of_getElem? (i := 183) rfl)
theorem q184 : (Jvm.Cond.methodLink "SurveyStoreLaw" (114 : Nat) ({ cls := "SurveyStore", name := "conflict", desc := "(III)I" } : Jvm.MethodName)) ∈ zTW := zin1 (List.mem_of_getElem? (i := 184) rfl)
theorem q185 : (Jvm.Cond.instanceMethod ({ cls := "SurveyStore", name := "conflict", desc := "(III)I" } : Jvm.MethodName)) ∈ zTW := zin1 (List.mem_of_getElem? (i := 185) rfl)
theorem q186 : (Jvm.Cond.selects "SurveyStore" ({ cls := "SurveyStore", name := "conflict", desc := "(III)I" } : Jvm.MethodName) ({ cls := "SurveyStore", name := "conflict", desc := "(III)I" } : Jvm.MethodName)) ∈ zTW := zin1 (List.mem_of_getElem? (i := 186) rfl)
theorem q187 : (Jvm.Cond.code ({ cls := "SurveyStore", name := "conflict", desc := "(III)I" } : Jvm.MethodName) prog_1_method_15_code (5 : Nat) (Option.some Jvm.ClassFile.FieldType.int)) ∈ zTW := zin1 (List.mem_of_getElem? (i := 187) rfl)
theorem q188 : (Jvm.Cond.methodLink "SurveyStore" (213 : Nat) ({ cls := "SurveyStore$Conflicts", name := "tell", desc := "(II)I" } : Jvm.MethodName)) ∈ zTW := zin1 (List.mem_of_getElem? (i := 188) rfl)
theorem q189 : (Jvm.Cond.instanceMethod ({ cls := "SurveyStore$Conflicts", name := "tell", desc := "(II)I" } : Jvm.MethodName)) ∈ zTW := zin1 (List.mem_of_getElem? (i := 189) rfl)
theorem q190 : (Jvm.Cond.selects "SurveyStore$Conflicts" ({ cls := "SurveyStore$Conflicts", name := "tell", desc := "(II)I" } : Jvm.MethodName) ({ cls := "SurveyStore$Conflicts", name := "tell", desc := "(II)I" } : Jvm.MethodName)) ∈ zTW := zin1 (List.mem_of_getElem? (i := 190) rfl)
theorem q191 : (Jvm.Cond.code ({ cls := "SurveyStore$Conflicts", name := "tell", desc := "(II)I" } : Jvm.MethodName) prog_6_method_6_code (3 : Nat) (Option.some Jvm.ClassFile.FieldType.int)) ∈ zTW := zin1 (List.mem_of_getElem? (i := 191) rfl)
theorem q192 : (Jvm.Cond.methodLink "SurveyStore$Conflicts" (35 : Nat) ({ cls := "SurveyStore$Conflicts", name := "has", desc := "(I)Z" } : Jvm.MethodName)) ∈ zTW := zin1 (List.mem_of_getElem? (i := 192) rfl)
theorem q193 : (Jvm.Cond.instanceMethod ({ cls := "SurveyStore$Conflicts", name := "has", desc := "(I)Z" } : Jvm.MethodName)) ∈ zTW := zin1 (List.mem_of_getElem? (i := 193) rfl)
theorem q194 : (Jvm.Cond.selects "SurveyStore$Conflicts" ({ cls := "SurveyStore$Conflicts", name := "has", desc := "(I)Z" } : Jvm.MethodName) ({ cls := "SurveyStore$Conflicts", name := "has", desc := "(I)Z" } : Jvm.MethodName)) ∈ zTW := zin1 (List.mem_of_getElem? (i := 194) rfl)
theorem q195 : (Jvm.Cond.code ({ cls := "SurveyStore$Conflicts", name := "has", desc := "(I)Z" } : Jvm.MethodName) prog_6_method_4_code (2 : Nat) (Option.some Jvm.ClassFile.FieldType.boolean)) ∈ zTW := zin1 (List.mem_of_getElem? (i := 195) rfl)
theorem q196 : (Jvm.Cond.constant "SurveyStore$Conflicts" (39 : Nat) (-2147483648 : Int32)) ∈ zTW := zin1 (List.mem_of_getElem? (i := 196) rfl)
theorem q197 : (Jvm.Cond.methodLinkNest "SurveyStore$Conflicts" (40 : Nat) ({ cls := "SurveyStore", name := "layerOf", desc := "(I)I" } : Jvm.MethodName) "SurveyStore") ∈ zTW := zin1 (List.mem_of_getElem? (i := 197) rfl)
theorem q198 : (Jvm.Cond.static ({ cls := "SurveyStore", name := "layerOf", desc := "(I)I" } : Jvm.MethodName)) ∈ zTW := zin1 (List.mem_of_getElem? (i := 198) rfl)
theorem q199 : (Jvm.Cond.code ({ cls := "SurveyStore", name := "layerOf", desc := "(I)I" } : Jvm.MethodName) prog_1_method_32_code (1 : Nat) (Option.some Jvm.ClassFile.FieldType.int)) ∈ zTW := zin1 (List.mem_of_getElem? (i := 199) rfl)
theorem q200 : (Jvm.Cond.methodLinkNest "SurveyStore$Conflicts" (44 : Nat) ({ cls := "SurveyStore", name := "xOf", desc := "(I)I" } : Jvm.MethodName) "SurveyStore") ∈ zTW := zin1 (List.mem_of_getElem? (i := 200) rfl)
theorem q201 : (Jvm.Cond.static ({ cls := "SurveyStore", name := "xOf", desc := "(I)I" } : Jvm.MethodName)) ∈ zTW := zin1 (List.mem_of_getElem? (i := 201) rfl)
theorem q202 : (Jvm.Cond.code ({ cls := "SurveyStore", name := "xOf", desc := "(I)I" } : Jvm.MethodName) prog_1_method_34_code (1 : Nat) (Option.some Jvm.ClassFile.FieldType.int)) ∈ zTW := zin1 (List.mem_of_getElem? (i := 202) rfl)
theorem q203 : (Jvm.Cond.methodLinkNest "SurveyStore$Conflicts" (47 : Nat) ({ cls := "SurveyStore", name := "yOf", desc := "(I)I" } : Jvm.MethodName) "SurveyStore") ∈ zTW := zin1 (List.mem_of_getElem? (i := 203) rfl)
theorem q204 : (Jvm.Cond.static ({ cls := "SurveyStore", name := "yOf", desc := "(I)I" } : Jvm.MethodName)) ∈ zTW := zin1 (List.mem_of_getElem? (i := 204) rfl)
theorem q205 : (Jvm.Cond.code ({ cls := "SurveyStore", name := "yOf", desc := "(I)I" } : Jvm.MethodName) prog_1_method_33_code (1 : Nat) (Option.some Jvm.ClassFile.FieldType.int)) ∈ zTW := zin1 (List.mem_of_getElem? (i := 205) rfl)
theorem q206 : (Jvm.Cond.methodLink "SurveyStoreLaw" (122 : Nat) ({ cls := "SurveyStore", name := "value", desc := "(IIII)I" } : Jvm.MethodName)) ∈ zTW := zin1 (List.mem_of_getElem? (i := 206) rfl)
theorem q207 : (Jvm.Cond.instanceMethod ({ cls := "SurveyStore", name := "value", desc := "(IIII)I" } : Jvm.MethodName)) ∈ zTW := zin1 (List.mem_of_getElem? (i := 207) rfl)
theorem q208 : (Jvm.Cond.selects "SurveyStore" ({ cls := "SurveyStore", name := "value", desc := "(IIII)I" } : Jvm.MethodName) ({ cls := "SurveyStore", name := "value", desc := "(IIII)I" } : Jvm.MethodName)) ∈ zTW := zin1 (List.mem_of_getElem? (i := 208) rfl)
theorem q209 : (Jvm.Cond.code ({ cls := "SurveyStore", name := "value", desc := "(IIII)I" } : Jvm.MethodName) prog_1_method_17_code (5 : Nat) (Option.some Jvm.ClassFile.FieldType.int)) ∈ zTW := zin1 (List.mem_of_getElem? (i := 209) rfl)
theorem q210 : (Jvm.Cond.methodLink "SurveyStore" (229 : Nat) ({ cls := "SurveyStore", name := "cellAt", desc := "(IIII)J" } : Jvm.MethodName)) ∈ zTW := zin1 (List.mem_of_getElem? (i := 210) rfl)
theorem q211 : (Jvm.Cond.privateMethod ({ cls := "SurveyStore", name := "cellAt", desc := "(IIII)J" } : Jvm.MethodName)) ∈ zTW := zin1 (List.mem_of_getElem? (i := 211) rfl)
theorem q212 : (Jvm.Cond.instanceMethod ({ cls := "SurveyStore", name := "cellAt", desc := "(IIII)J" } : Jvm.MethodName)) ∈ zTW := zin1 (List.mem_of_getElem? (i := 212) rfl)
theorem q213 : (Jvm.Cond.code ({ cls := "SurveyStore", name := "cellAt", desc := "(IIII)J" } : Jvm.MethodName) prog_1_method_45_code (6 : Nat) (Option.some Jvm.ClassFile.FieldType.long)) ∈ zTW := zin1 (List.mem_of_getElem? (i := 213) rfl)
theorem q214 : (Jvm.Cond.methodLink "SurveyStore" (248 : Nat) ({ cls := "SurveyStore", name := "cellsOf", desc := "(I)[J" } : Jvm.MethodName)) ∈ zTW := zin1 (List.mem_of_getElem? (i := 214) rfl)
theorem q215 : (Jvm.Cond.privateMethod ({ cls := "SurveyStore", name := "cellsOf", desc := "(I)[J" } : Jvm.MethodName)) ∈ zTW := zin1 (List.mem_of_getElem? (i := 215) rfl)
theorem q216 : (Jvm.Cond.instanceMethod ({ cls := "SurveyStore", name := "cellsOf", desc := "(I)[J" } : Jvm.MethodName)) ∈ zTW := zin1 (List.mem_of_getElem? (i := 216) rfl)
theorem q217 : (Jvm.Cond.code ({ cls := "SurveyStore", name := "cellsOf", desc := "(I)[J" } : Jvm.MethodName) prog_1_method_44_code (4 : Nat) (Option.some (Jvm.ClassFile.FieldType.array Jvm.ClassFile.FieldType.long))) ∈ zTW := zin1 (List.mem_of_getElem? (i := 217) rfl)
theorem q218 : (Jvm.Cond.methodLink "SurveyStore" (77 : Nat) ({ cls := "SurveyStore", name := "commitAt", desc := "(I)LSurveyStore$Commit;" } : Jvm.MethodName)) ∈ zTW := zin1 (List.mem_of_getElem? (i := 218) rfl)
theorem q219 : (Jvm.Cond.privateMethod ({ cls := "SurveyStore", name := "commitAt", desc := "(I)LSurveyStore$Commit;" } : Jvm.MethodName)) ∈ zTW := zin1 (List.mem_of_getElem? (i := 219) rfl)
theorem q220 : (Jvm.Cond.instanceMethod ({ cls := "SurveyStore", name := "commitAt", desc := "(I)LSurveyStore$Commit;" } : Jvm.MethodName)) ∈ zTW := zin1 (List.mem_of_getElem? (i := 220) rfl)
theorem q221 : (Jvm.Cond.code ({ cls := "SurveyStore", name := "commitAt", desc := "(I)LSurveyStore$Commit;" } : Jvm.MethodName) prog_1_method_41_code (2 : Nat) (Option.some (Jvm.ClassFile.FieldType.object "SurveyStore$Commit"))) ∈ zTW := zin1 (List.mem_of_getElem? (i := 221) rfl)
theorem q222 : (Jvm.Cond.methodLink "SurveyStore" (267 : Nat) ({ cls := "SurveyStore", name := "branchOfPlace", desc := "(I)LSurveyStore$Branch;" } : Jvm.MethodName)) ∈ zTW := zin1 (List.mem_of_getElem? (i := 222) rfl)
theorem q223 : (Jvm.Cond.privateMethod ({ cls := "SurveyStore", name := "branchOfPlace", desc := "(I)LSurveyStore$Branch;" } : Jvm.MethodName)) ∈ zTW := zin1 (List.mem_of_getElem? (i := 223) rfl)
theorem q224 : (Jvm.Cond.instanceMethod ({ cls := "SurveyStore", name := "branchOfPlace", desc := "(I)LSurveyStore$Branch;" } : Jvm.MethodName)) ∈ zTW := zin1 (List.mem_of_getElem? (i := 224) rfl)
theorem q225 : (Jvm.Cond.code ({ cls := "SurveyStore", name := "branchOfPlace", desc := "(I)LSurveyStore$Branch;" } : Jvm.MethodName) prog_1_method_43_code (2 : Nat) (Option.some (Jvm.ClassFile.FieldType.object "SurveyStore$Branch"))) ∈ zTW := zin1 (List.mem_of_getElem? (i := 225) rfl)
theorem q226 : (Jvm.Cond.methodLink "SurveyStore" (290 : Nat) ({ cls := "SurveyStore", name := "isCoordinate", desc := "(I)Z" } : Jvm.MethodName)) ∈ zTW := zin1 (List.mem_of_getElem? (i := 226) rfl)
theorem q227 : (Jvm.Cond.static ({ cls := "SurveyStore", name := "isCoordinate", desc := "(I)Z" } : Jvm.MethodName)) ∈ zTW := zin1 (List.mem_of_getElem? (i := 227) rfl)
theorem q228 : (Jvm.Cond.code ({ cls := "SurveyStore", name := "isCoordinate", desc := "(I)Z" } : Jvm.MethodName) prog_1_method_26_code (1 : Nat) (Option.some Jvm.ClassFile.FieldType.boolean)) ∈ zTW := zin1 (List.mem_of_getElem? (i := 228) rfl)
theorem q229 : (Jvm.Cond.methodLink "SurveyStore" (117 : Nat) ({ cls := "SurveyStore", name := "indexOf", desc := "(III)I" } : Jvm.MethodName)) ∈ zTW := zin1 (List.mem_of_getElem? (i := 229) rfl)
theorem q230 : (Jvm.Cond.static ({ cls := "SurveyStore", name := "indexOf", desc := "(III)I" } : Jvm.MethodName)) ∈ zTW := zin1 (List.mem_of_getElem? (i := 230) rfl)
theorem q231 : (Jvm.Cond.code ({ cls := "SurveyStore", name := "indexOf", desc := "(III)I" } : Jvm.MethodName) prog_1_method_31_code (3 : Nat) (Option.some Jvm.ClassFile.FieldType.int)) ∈ zTW := zin1 (List.mem_of_getElem? (i := 231) rfl)
theorem q232 : (Jvm.Cond.methodLink "SurveyStore" (142 : Nat) ({ cls := "SurveyStore", name := "valueOf", desc := "(J)I" } : Jvm.MethodName)) ∈ zTW := zin1 (List.mem_of_getElem? (i := 232) rfl)
theorem q233 : (Jvm.Cond.static ({ cls := "SurveyStore", name := "valueOf", desc := "(J)I" } : Jvm.MethodName)) ∈ zTW := zin1 (List.mem_of_getElem? (i := 233) rfl)
theorem q234 : (Jvm.Cond.code ({ cls := "SurveyStore", name := "valueOf", desc := "(J)I" } : Jvm.MethodName) prog_1_method_36_code (2 : Nat) (Option.some Jvm.ClassFile.FieldType.int)) ∈ zTW := zin1 (List.mem_of_getElem? (i := 234) rfl)
theorem q235 : (Jvm.Cond.methodLink "SurveyStoreLaw" (127 : Nat) ({ cls := "SurveyStore", name := "origin", desc := "(IIIII)I" } : Jvm.MethodName)) ∈ zTW := zin1 (List.mem_of_getElem? (i := 235) rfl)
theorem q236 : (Jvm.Cond.instanceMethod ({ cls := "SurveyStore", name := "origin", desc := "(IIIII)I" } : Jvm.MethodName)) ∈ zTW := zin1 (List.mem_of_getElem? (i := 236) rfl)
theorem q237 : (Jvm.Cond.selects "SurveyStore" ({ cls := "SurveyStore", name := "origin", desc := "(IIIII)I" } : Jvm.MethodName) ({ cls := "SurveyStore", name := "origin", desc := "(IIIII)I" } : Jvm.MethodName)) ∈ zTW := zin1 (List.mem_of_getElem? (i := 237) rfl)
theorem q238 : (Jvm.Cond.code ({ cls := "SurveyStore", name := "origin", desc := "(IIIII)I" } : Jvm.MethodName) prog_1_method_18_code (8 : Nat) (Option.some Jvm.ClassFile.FieldType.int)) ∈ zTW := zin1 (List.mem_of_getElem? (i := 238) rfl)
theorem q239 : (Jvm.Cond.methodLink "SurveyStore" (233 : Nat) ({ cls := "SurveyStore", name := "originCommitOf", desc := "(J)I" } : Jvm.MethodName)) ∈ zTW := zin1 (List.mem_of_getElem? (i := 239) rfl)
theorem q240 : (Jvm.Cond.static ({ cls := "SurveyStore", name := "originCommitOf", desc := "(J)I" } : Jvm.MethodName)) ∈ zTW := zin2 (List.mem_of_getElem? (i := 0) rfl)
theorem q241 : (Jvm.Cond.code ({ cls := "SurveyStore", name := "originCommitOf", desc := "(J)I" } : Jvm.MethodName) prog_1_method_39_code (2 : Nat) (Option.some Jvm.ClassFile.FieldType.int)) ∈ zTW := zin2 (List.mem_of_getElem? (i := 1) rfl)
theorem q242 : (Jvm.Cond.methodLink "SurveyStore" (236 : Nat) ({ cls := "SurveyStore", name := "originIndexOf", desc := "(J)I" } : Jvm.MethodName)) ∈ zTW := zin2 (List.mem_of_getElem? (i := 2) rfl)
theorem q243 : (Jvm.Cond.static ({ cls := "SurveyStore", name := "originIndexOf", desc := "(J)I" } : Jvm.MethodName)) ∈ zTW := zin2 (List.mem_of_getElem? (i := 3) rfl)
theorem q244 : (Jvm.Cond.code ({ cls := "SurveyStore", name := "originIndexOf", desc := "(J)I" } : Jvm.MethodName) prog_1_method_38_code (2 : Nat) (Option.some Jvm.ClassFile.FieldType.int)) ∈ zTW := zin2 (List.mem_of_getElem? (i := 4) rfl)
theorem q245 : (Jvm.Cond.methodLink "SurveyStore" (239 : Nat) ({ cls := "SurveyStore", name := "layerOf", desc := "(I)I" } : Jvm.MethodName)) ∈ zTW := zin2 (List.mem_of_getElem? (i := 5) rfl)
theorem q246 : (Jvm.Cond.methodLink "SurveyStore" (242 : Nat) ({ cls := "SurveyStore", name := "xOf", desc := "(I)I" } : Jvm.MethodName)) ∈ zTW := zin2 (List.mem_of_getElem? (i := 6) rfl)
theorem q247 : (Jvm.Cond.methodLink "SurveyStore" (245 : Nat) ({ cls := "SurveyStore", name := "yOf", desc := "(I)I" } : Jvm.MethodName)) ∈ zTW := zin2 (List.mem_of_getElem? (i := 7) rfl)
theorem q248 : (Jvm.Cond.methodLink "SurveyStoreLaw" (135 : Nat) ({ cls := "SurveyStore", name := "differing", desc := "(III)I" } : Jvm.MethodName)) ∈ zTW := zin2 (List.mem_of_getElem? (i := 8) rfl)
theorem q249 : (Jvm.Cond.instanceMethod ({ cls := "SurveyStore", name := "differing", desc := "(III)I" } : Jvm.MethodName)) ∈ zTW := zin2 (List.mem_of_getElem? (i := 9) rfl)
theorem q250 : (Jvm.Cond.selects "SurveyStore" ({ cls := "SurveyStore", name := "differing", desc := "(III)I" } : Jvm.MethodName) ({ cls := "SurveyStore", name := "differing", desc := "(III)I" } : Jvm.MethodName)) ∈ zTW := zin2 (List.mem_of_getElem? (i := 10) rfl)
theorem q251 : (Jvm.Cond.code ({ cls := "SurveyStore", name := "differing", desc := "(III)I" } : Jvm.MethodName) prog_1_method_20_code (8 : Nat) (Option.some Jvm.ClassFile.FieldType.int)) ∈ zTW := zin2 (List.mem_of_getElem? (i := 11) rfl)
theorem q252 : (Jvm.Cond.methodLink "SurveyStoreLaw" (139 : Nat) ({ cls := "SurveyStore", name := "differs", desc := "(IIII)I" } : Jvm.MethodName)) ∈ zTW := zin2 (List.mem_of_getElem? (i := 12) rfl)
theorem q253 : (Jvm.Cond.instanceMethod ({ cls := "SurveyStore", name := "differs", desc := "(IIII)I" } : Jvm.MethodName)) ∈ zTW := zin2 (List.mem_of_getElem? (i := 13) rfl)
theorem q254 : (Jvm.Cond.selects "SurveyStore" ({ cls := "SurveyStore", name := "differs", desc := "(IIII)I" } : Jvm.MethodName) ({ cls := "SurveyStore", name := "differs", desc := "(IIII)I" } : Jvm.MethodName)) ∈ zTW := zin2 (List.mem_of_getElem? (i := 14) rfl)
theorem q255 : (Jvm.Cond.code ({ cls := "SurveyStore", name := "differs", desc := "(IIII)I" } : Jvm.MethodName) prog_1_method_21_code (10 : Nat) (Option.some Jvm.ClassFile.FieldType.int)) ∈ zTW := zin2 (List.mem_of_getElem? (i := 15) rfl)
theorem q256 : (Jvm.Cond.methodLink "SurveyStoreLaw" (143 : Nat) ({ cls := "SurveyStore", name := "nearest", desc := "(III)I" } : Jvm.MethodName)) ∈ zTW := zin2 (List.mem_of_getElem? (i := 16) rfl)
theorem q257 : (Jvm.Cond.instanceMethod ({ cls := "SurveyStore", name := "nearest", desc := "(III)I" } : Jvm.MethodName)) ∈ zTW := zin2 (List.mem_of_getElem? (i := 17) rfl)
theorem q258 : (Jvm.Cond.selects "SurveyStore" ({ cls := "SurveyStore", name := "nearest", desc := "(III)I" } : Jvm.MethodName) ({ cls := "SurveyStore", name := "nearest", desc := "(III)I" } : Jvm.MethodName)) ∈ zTW := zin2 (List.mem_of_getElem? (i := 18) rfl)
theorem q259 : (Jvm.Cond.code ({ cls := "SurveyStore", name := "nearest", desc := "(III)I" } : Jvm.MethodName) prog_1_method_22_code (7 : Nat) (Option.some Jvm.ClassFile.FieldType.int)) ∈ zTW := zin2 (List.mem_of_getElem? (i := 19) rfl)
theorem q260 : (Jvm.Cond.methodLink "SurveyStore" (260 : Nat) ({ cls := "SurveyStore", name := "nearestOf", desc := "(II)I" } : Jvm.MethodName)) ∈ zTW := zin2 (List.mem_of_getElem? (i := 20) rfl)
theorem q261 : (Jvm.Cond.privateMethod ({ cls := "SurveyStore", name := "nearestOf", desc := "(II)I" } : Jvm.MethodName)) ∈ zTW := zin2 (List.mem_of_getElem? (i := 21) rfl)
theorem q262 : (Jvm.Cond.instanceMethod ({ cls := "SurveyStore", name := "nearestOf", desc := "(II)I" } : Jvm.MethodName)) ∈ zTW := zin2 (List.mem_of_getElem? (i := 22) rfl)
theorem q263 : (Jvm.Cond.code ({ cls := "SurveyStore", name := "nearestOf", desc := "(II)I" } : Jvm.MethodName) prog_1_method_56_code (7 : Nat) (Option.some Jvm.ClassFile.FieldType.int)) ∈ zTW := zin2 (List.mem_of_getElem? (i := 23) rfl)
theorem q264 : (Jvm.Cond.methodLink "SurveyStore" (186 : Nat) ({ cls := "SurveyStore", name := "contains", desc := "(II)Z" } : Jvm.MethodName)) ∈ zTW := zin2 (List.mem_of_getElem? (i := 24) rfl)
theorem q265 : (Jvm.Cond.static ({ cls := "SurveyStore", name := "contains", desc := "(II)Z" } : Jvm.MethodName)) ∈ zTW := zin2 (List.mem_of_getElem? (i := 25) rfl)
theorem q266 : (Jvm.Cond.code ({ cls := "SurveyStore", name := "contains", desc := "(II)Z" } : Jvm.MethodName) prog_1_method_30_code (2 : Nat) (Option.some Jvm.ClassFile.FieldType.boolean)) ∈ zTW := zin2 (List.mem_of_getElem? (i := 26) rfl)
theorem q267 : (Jvm.Cond.methodLink "SurveyStore" (172 : Nat) ({ cls := "SurveyStore", name := "ancestorsOf", desc := "(I)I" } : Jvm.MethodName)) ∈ zTW := zin2 (List.mem_of_getElem? (i := 27) rfl)
theorem q268 : (Jvm.Cond.privateMethod ({ cls := "SurveyStore", name := "ancestorsOf", desc := "(I)I" } : Jvm.MethodName)) ∈ zTW := zin2 (List.mem_of_getElem? (i := 28) rfl)
theorem q269 : (Jvm.Cond.instanceMethod ({ cls := "SurveyStore", name := "ancestorsOf", desc := "(I)I" } : Jvm.MethodName)) ∈ zTW := zin2 (List.mem_of_getElem? (i := 29) rfl)
theorem q270 : (Jvm.Cond.code ({ cls := "SurveyStore", name := "ancestorsOf", desc := "(I)I" } : Jvm.MethodName) prog_1_method_55_code (3 : Nat) (Option.some Jvm.ClassFile.FieldType.int)) ∈ zTW := zin2 (List.mem_of_getElem? (i := 30) rfl)
theorem q271 : (Jvm.Cond.methodLink "SurveyStoreLaw" (147 : Nat) ({ cls := "SurveyStore", name := "about", desc := "(II)I" } : Jvm.MethodName)) ∈ zTW := zin2 (List.mem_of_getElem? (i := 31) rfl)
theorem q272 : (Jvm.Cond.instanceMethod ({ cls := "SurveyStore", name := "about", desc := "(II)I" } : Jvm.MethodName)) ∈ zTW := zin2 (List.mem_of_getElem? (i := 32) rfl)
theorem q273 : (Jvm.Cond.selects "SurveyStore" ({ cls := "SurveyStore", name := "about", desc := "(II)I" } : Jvm.MethodName) ({ cls := "SurveyStore", name := "about", desc := "(II)I" } : Jvm.MethodName)) ∈ zTW := zin2 (List.mem_of_getElem? (i := 33) rfl)
theorem q274 : (Jvm.Cond.code ({ cls := "SurveyStore", name := "about", desc := "(II)I" } : Jvm.MethodName) prog_1_method_23_code (5 : Nat) (Option.some Jvm.ClassFile.FieldType.int)) ∈ zTW := zin2 (List.mem_of_getElem? (i := 34) rfl)
theorem q275 : (Jvm.Cond.methodLink "SurveyStore" (263 : Nat) ({ cls := "SurveyStore", name := "aboutCommit", desc := "(LSurveyStore$Commit;II)I" } : Jvm.MethodName)) ∈ zTW := zin2 (List.mem_of_getElem? (i := 35) rfl)
theorem q276 : (Jvm.Cond.privateMethod ({ cls := "SurveyStore", name := "aboutCommit", desc := "(LSurveyStore$Commit;II)I" } : Jvm.MethodName)) ∈ zTW := zin2 (List.mem_of_getElem? (i := 36) rfl)
theorem q277 : (Jvm.Cond.instanceMethod ({ cls := "SurveyStore", name := "aboutCommit", desc := "(LSurveyStore$Commit;II)I" } : Jvm.MethodName)) ∈ zTW := zin2 (List.mem_of_getElem? (i := 37) rfl)
theorem q278 : (Jvm.Cond.code ({ cls := "SurveyStore", name := "aboutCommit", desc := "(LSurveyStore$Commit;II)I" } : Jvm.MethodName) prog_1_method_62_code (4 : Nat) (Option.some Jvm.ClassFile.FieldType.int)) ∈ zTW := zin2 (List.mem_of_getElem? (i := 38) rfl)
theorem q279 : (Jvm.Cond.methodLink "SurveyStore" (341 : Nat) ({ cls := "SurveyStore", name := "childrenOf", desc := "(I)I" } : Jvm.MethodName)) ∈ zTW := zin2 (List.mem_of_getElem? (i := 39) rfl)
theorem q280 : (Jvm.Cond.privateMethod ({ cls := "SurveyStore", name := "childrenOf", desc := "(I)I" } : Jvm.MethodName)) ∈ zTW := zin2 (List.mem_of_getElem? (i := 40) rfl)
theorem q281 : (Jvm.Cond.instanceMethod ({ cls := "SurveyStore", name := "childrenOf", desc := "(I)I" } : Jvm.MethodName)) ∈ zTW := zin2 (List.mem_of_getElem? (i := 41) rfl)
theorem q282 : (Jvm.Cond.code ({ cls := "SurveyStore", name := "childrenOf", desc := "(I)I" } : Jvm.MethodName) prog_1_method_63_code (5 : Nat) (Option.some Jvm.ClassFile.FieldType.int)) ∈ zTW := zin2 (List.mem_of_getElem? (i := 42) rfl)
theorem q283 : (Jvm.Cond.methodLink "SurveyStore" (344 : Nat) ({ cls := "SurveyStore$Commit", name := "hasParent", desc := "(I)Z" } : Jvm.MethodName)) ∈ zTW := zin2 (List.mem_of_getElem? (i := 43) rfl)
theorem q284 : (Jvm.Cond.instanceMethod ({ cls := "SurveyStore$Commit", name := "hasParent", desc := "(I)Z" } : Jvm.MethodName)) ∈ zTW := zin2 (List.mem_of_getElem? (i := 44) rfl)
theorem q285 : (Jvm.Cond.selects "SurveyStore$Commit" ({ cls := "SurveyStore$Commit", name := "hasParent", desc := "(I)Z" } : Jvm.MethodName) ({ cls := "SurveyStore$Commit", name := "hasParent", desc := "(I)Z" } : Jvm.MethodName)) ∈ zTW := zin2 (List.mem_of_getElem? (i := 45) rfl)
theorem q286 : (Jvm.Cond.code ({ cls := "SurveyStore$Commit", name := "hasParent", desc := "(I)Z" } : Jvm.MethodName) prog_5_method_2_code (2 : Nat) (Option.some Jvm.ClassFile.FieldType.boolean)) ∈ zTW := zin2 (List.mem_of_getElem? (i := 46) rfl)
theorem q287 : (Jvm.Cond.methodLink "SurveyStore" (270 : Nat) ({ cls := "SurveyStore", name := "aboutBranch", desc := "(LSurveyStore$Branch;I)I" } : Jvm.MethodName)) ∈ zTW := zin2 (List.mem_of_getElem? (i := 47) rfl)
theorem q288 : (Jvm.Cond.privateMethod ({ cls := "SurveyStore", name := "aboutBranch", desc := "(LSurveyStore$Branch;I)I" } : Jvm.MethodName)) ∈ zTW := zin2 (List.mem_of_getElem? (i := 48) rfl)
theorem q289 : (Jvm.Cond.instanceMethod ({ cls := "SurveyStore", name := "aboutBranch", desc := "(LSurveyStore$Branch;I)I" } : Jvm.MethodName)) ∈ zTW := zin2 (List.mem_of_getElem? (i := 49) rfl)
theorem q290 : (Jvm.Cond.code ({ cls := "SurveyStore", name := "aboutBranch", desc := "(LSurveyStore$Branch;I)I" } : Jvm.MethodName) prog_1_method_64_code (3 : Nat) (Option.some Jvm.ClassFile.FieldType.int)) ∈ zTW := zin2 (List.mem_of_getElem? (i := 50) rfl)
theorem q291 : (Jvm.Cond.methodLink "SurveyStore" (157 : Nat) ({ cls := "SurveyStore", name := "isChanged", desc := "(LSurveyStore$Branch;)Z" } : Jvm.MethodName)) ∈ zTW := zin2 (List.mem_of_getElem? (i := 51) rfl)
theorem q292 : (Jvm.Cond.privateMethod ({ cls := "SurveyStore", name := "isChanged", desc := "(LSurveyStore$Branch;)Z" } : Jvm.MethodName)) ∈ zTW := zin2 (List.mem_of_getElem? (i := 52) rfl)
theorem q293 : (Jvm.Cond.instanceMethod ({ cls := "SurveyStore", name := "isChanged", desc := "(LSurveyStore$Branch;)Z" } : Jvm.MethodName)) ∈ zTW := zin2 (List.mem_of_getElem? (i := 53) rfl)
theorem q294 : (Jvm.Cond.code ({ cls := "SurveyStore", name := "isChanged", desc := "(LSurveyStore$Branch;)Z" } : Jvm.MethodName) prog_1_method_53_code (4 : Nat) (Option.some Jvm.ClassFile.FieldType.boolean)) ∈ zTW := zin2 (List.mem_of_getElem? (i := 54) rfl)
theorem q295 : (Jvm.Cond.methodLink "SurveyStoreLaw" (151 : Nat) ({ cls := "SurveyStore", name := "blocks", desc := "(I)I" } : Jvm.MethodName)) ∈ zTW := zin2 (List.mem_of_getElem? (i := 55) rfl)
theorem q296 : (Jvm.Cond.instanceMethod ({ cls := "SurveyStore", name := "blocks", desc := "(I)I" } : Jvm.MethodName)) ∈ zTW := zin2 (List.mem_of_getElem? (i := 56) rfl)
theorem q297 : (Jvm.Cond.selects "SurveyStore" ({ cls := "SurveyStore", name := "blocks", desc := "(I)I" } : Jvm.MethodName) ({ cls := "SurveyStore", name := "blocks", desc := "(I)I" } : Jvm.MethodName)) ∈ zTW := zin2 (List.mem_of_getElem? (i := 57) rfl)
theorem q298 : (Jvm.Cond.code ({ cls := "SurveyStore", name := "blocks", desc := "(I)I" } : Jvm.MethodName) prog_1_method_24_code (4 : Nat) (Option.some Jvm.ClassFile.FieldType.int)) ∈ zTW := zin2 (List.mem_of_getElem? (i := 58) rfl)
theorem q299 : (Jvm.Cond.classLink "SurveyStore" (278 : Nat) "SurveyStore$BlockTable") ∈ zTW := zin2 (List.mem_of_getElem? (i := 59) rfl)
theorem q300 : (Jvm.Cond.instantiable "SurveyStore$BlockTable" (3 : Nat)) ∈ zTW := zin2 (List.mem_of_getElem? (i := 60) rfl)
theorem q301 : (Jvm.Cond.methodLinkNest "SurveyStore" (280 : Nat) ({ cls := "SurveyStore$BlockTable", name := "<init>", desc := "()V" } : Jvm.MethodName) "SurveyStore") ∈ zTW := zin2 (List.mem_of_getElem? (i := 61) rfl)
theorem q302 : (Jvm.Cond.instanceMethod ({ cls := "SurveyStore$BlockTable", name := "<init>", desc := "()V" } : Jvm.MethodName)) ∈ zTW := zin2 (List.mem_of_getElem? (i := 62) rfl)
theorem q303 : (Jvm.Cond.code ({ cls := "SurveyStore$BlockTable", name := "<init>", desc := "()V" } : Jvm.MethodName) prog_3_method_1_code (1 : Nat) (Option.none : Option Jvm.ClassFile.FieldType)) ∈ zTW := zin2 (List.mem_of_getElem? (i := 63) rfl)
theorem q304 : (Jvm.Cond.methodLink "SurveyStore$BlockTable" (3 : Nat) ({ cls := "java/lang/Object", name := "<init>", desc := "()V" } : Jvm.MethodName)) ∈ zTW := zin2 (List.mem_of_getElem? (i := 64) rfl)
theorem q305 : (Jvm.Cond.fieldLink "SurveyStore$BlockTable" (9 : Nat) "SurveyStore$BlockTable" "values" "[I") ∈ zTW := zin2 (List.mem_of_getElem? (i := 65) rfl)
theorem q306 : (Jvm.Cond.fieldLink "SurveyStore$BlockTable" (15 : Nat) "SurveyStore$BlockTable" "slots" "[I") ∈ zTW := zin2 (List.mem_of_getElem? (i := 66) rfl)
theorem q307 : (Jvm.Cond.fieldLink "SurveyStore$BlockTable" (24 : Nat) "SurveyStore$BlockTable" "count" "I") ∈ zTW := zin2 (List.mem_of_getElem? (i := 67) rfl)
theorem q308 : (Jvm.Cond.fieldLink "SurveyStore" (287 : Nat) "SurveyStore$BlockTable" "count" "I") ∈ zTW := zin2 (List.mem_of_getElem? (i := 68) rfl)
theorem q309 : (Jvm.Cond.laysFinal "SurveyStore$BlockTable" "SurveyStore$BlockTable" "values" "[I") ∈ zTW := zin2 (List.mem_of_getElem? (i := 69) rfl)
theorem q310 : (Jvm.Cond.soleField "SurveyStore$BlockTable" "values") ∈ zTW := zin2 (List.mem_of_getElem? (i := 70) rfl)
theorem q311 : (Jvm.Cond.laysFinal "SurveyStore$BlockTable" "SurveyStore$BlockTable" "slots" "[I") ∈ zTW := zin2 (List.mem_of_getElem? (i := 71) rfl)
theorem q312 : (Jvm.Cond.soleField "SurveyStore$BlockTable" "slots") ∈ zTW := zin2 (List.mem_of_getElem? (i := 72) rfl)
theorem q313 : (Jvm.Cond.lays "SurveyStore$BlockTable" "SurveyStore$BlockTable" "count" "I") ∈ zTW := zin2 (List.mem_of_getElem? (i := 73) rfl)
theorem q314 : (Jvm.Cond.soleField "SurveyStore$BlockTable" "count") ∈ zTW := zin2 (List.mem_of_getElem? (i := 74) rfl)
theorem q315 : (Jvm.Cond.superclass "SurveyStore$BlockTable" "java/lang/Object") ∈ zTW := zin2 (List.mem_of_getElem? (i := 75) rfl)
theorem q316 : (Jvm.Cond.methodLink "SurveyStore" (281 : Nat) ({ cls := "SurveyStore$BlockTable", name := "forget", desc := "()V" } : Jvm.MethodName)) ∈ zTW := zin2 (List.mem_of_getElem? (i := 76) rfl)
theorem q317 : (Jvm.Cond.instanceMethod ({ cls := "SurveyStore$BlockTable", name := "forget", desc := "()V" } : Jvm.MethodName)) ∈ zTW := zin2 (List.mem_of_getElem? (i := 77) rfl)
theorem q318 : (Jvm.Cond.selects "SurveyStore$BlockTable" ({ cls := "SurveyStore$BlockTable", name := "forget", desc := "()V" } : Jvm.MethodName) ({ cls := "SurveyStore$BlockTable", name := "forget", desc := "()V" } : Jvm.MethodName)) ∈ zTW := zin2 (List.mem_of_getElem? (i := 78) rfl)
theorem q319 : (Jvm.Cond.code ({ cls := "SurveyStore$BlockTable", name := "forget", desc := "()V" } : Jvm.MethodName) prog_3_method_2_code (1 : Nat) (Option.none : Option Jvm.ClassFile.FieldType)) ∈ zTW := zin2 (List.mem_of_getElem? (i := 79) rfl)
theorem q320 : (Jvm.Cond.methodLink "SurveyStore$BlockTable" (18 : Nat) ({ cls := "java/util/Arrays", name := "fill", desc := "([II)V" } : Jvm.MethodName)) ∈ zTW := zin2 (List.mem_of_getElem? (i := 80) rfl)
theorem q321 : (Jvm.Cond.methodLink "SurveyStore" (284 : Nat) ({ cls := "SurveyStore$BlockTable", name := "addAll", desc := "([JI)V" } : Jvm.MethodName)) ∈ zTW := zin2 (List.mem_of_getElem? (i := 81) rfl)
theorem q322 : (Jvm.Cond.instanceMethod ({ cls := "SurveyStore$BlockTable", name := "addAll", desc := "([JI)V" } : Jvm.MethodName)) ∈ zTW := zin2 (List.mem_of_getElem? (i := 82) rfl)
theorem q323 : (Jvm.Cond.selects "SurveyStore$BlockTable" ({ cls := "SurveyStore$BlockTable", name := "addAll", desc := "([JI)V" } : Jvm.MethodName) ({ cls := "SurveyStore$BlockTable", name := "addAll", desc := "([JI)V" } : Jvm.MethodName)) ∈ zTW := zin2 (List.mem_of_getElem? (i := 83) rfl)
theorem q324 : (Jvm.Cond.code ({ cls := "SurveyStore$BlockTable", name := "addAll", desc := "([JI)V" } : Jvm.MethodName) prog_3_method_3_code (5 : Nat) (Option.none : Option Jvm.ClassFile.FieldType)) ∈ zTW := zin2 (List.mem_of_getElem? (i := 84) rfl)
theorem q325 : (Jvm.Cond.methodLinkNest "SurveyStore$BlockTable" (28 : Nat) ({ cls := "SurveyStore", name := "indexOf", desc := "(III)I" } : Jvm.MethodName) "SurveyStore") ∈ zTW := zin2 (List.mem_of_getElem? (i := 85) rfl)
theorem q326 : (Jvm.Cond.methodLink "SurveyStore$BlockTable" (32 : Nat) ({ cls := "SurveyStore$BlockTable", name := "read", desc := "([JI)Z" } : Jvm.MethodName)) ∈ zTW := zin2 (List.mem_of_getElem? (i := 86) rfl)
theorem q327 : (Jvm.Cond.instanceMethod ({ cls := "SurveyStore$BlockTable", name := "read", desc := "([JI)Z" } : Jvm.MethodName)) ∈ zTW := zin2 (List.mem_of_getElem? (i := 87) rfl)
theorem q328 : (Jvm.Cond.selects "SurveyStore$BlockTable" ({ cls := "SurveyStore$BlockTable", name := "read", desc := "([JI)Z" } : Jvm.MethodName) ({ cls := "SurveyStore$BlockTable", name := "read", desc := "([JI)Z" } : Jvm.MethodName)) ∈ zTW := zin2 (List.mem_of_getElem? (i := 88) rfl)
theorem q329 : (Jvm.Cond.code ({ cls := "SurveyStore$BlockTable", name := "read", desc := "([JI)Z" } : Jvm.MethodName) prog_3_method_4_code (7 : Nat) (Option.some Jvm.ClassFile.FieldType.boolean)) ∈ zTW := zin2 (List.mem_of_getElem? (i := 89) rfl)
theorem q330 : (Jvm.Cond.methodLinkNest "SurveyStore$BlockTable" (39 : Nat) ({ cls := "SurveyStore", name := "valueOf", desc := "(J)I" } : Jvm.MethodName) "SurveyStore") ∈ zTW := zin2 (List.mem_of_getElem? (i := 90) rfl)
theorem q331 : (Jvm.Cond.constant "SurveyStore$BlockTable" (43 : Nat) (-2147483648 : Int32)) ∈ zTW := zin2 (List.mem_of_getElem? (i := 91) rfl)
theorem q332 : (Jvm.Cond.methodLink "SurveyStore$BlockTable" (36 : Nat) ({ cls := "SurveyStore$BlockTable", name := "keepIfNew", desc := "()V" } : Jvm.MethodName)) ∈ zTW := zin2 (List.mem_of_getElem? (i := 92) rfl)
theorem q333 : (Jvm.Cond.instanceMethod ({ cls := "SurveyStore$BlockTable", name := "keepIfNew", desc := "()V" } : Jvm.MethodName)) ∈ zTW := zin2 (List.mem_of_getElem? (i := 93) rfl)
theorem q334 : (Jvm.Cond.selects "SurveyStore$BlockTable" ({ cls := "SurveyStore$BlockTable", name := "keepIfNew", desc := "()V" } : Jvm.MethodName) ({ cls := "SurveyStore$BlockTable", name := "keepIfNew", desc := "()V" } : Jvm.MethodName)) ∈ zTW := zin2 (List.mem_of_getElem? (i := 94) rfl)
theorem q335 : (Jvm.Cond.code ({ cls := "SurveyStore$BlockTable", name := "keepIfNew", desc := "()V" } : Jvm.MethodName) prog_3_method_5_code (3 : Nat) (Option.none : Option Jvm.ClassFile.FieldType)) ∈ zTW := zin2 (List.mem_of_getElem? (i := 95) rfl)
theorem q336 : (Jvm.Cond.methodLink "SurveyStore$BlockTable" (44 : Nat) ({ cls := "SurveyStore$BlockTable", name := "hash", desc := "(I)I" } : Jvm.MethodName)) ∈ zTW := zin2 (List.mem_of_getElem? (i := 96) rfl)
theorem q337 : (Jvm.Cond.instanceMethod ({ cls := "SurveyStore$BlockTable", name := "hash", desc := "(I)I" } : Jvm.MethodName)) ∈ zTW := zin2 (List.mem_of_getElem? (i := 97) rfl)
theorem q338 : (Jvm.Cond.selects "SurveyStore$BlockTable" ({ cls := "SurveyStore$BlockTable", name := "hash", desc := "(I)I" } : Jvm.MethodName) ({ cls := "SurveyStore$BlockTable", name := "hash", desc := "(I)I" } : Jvm.MethodName)) ∈ zTW := zin2 (List.mem_of_getElem? (i := 98) rfl)
theorem q339 : (Jvm.Cond.code ({ cls := "SurveyStore$BlockTable", name := "hash", desc := "(I)I" } : Jvm.MethodName) prog_3_method_6_code (5 : Nat) (Option.some Jvm.ClassFile.FieldType.int)) ∈ zTW := zin2 (List.mem_of_getElem? (i := 99) rfl)
theorem q340 : (Jvm.Cond.constant "SurveyStore$BlockTable" (52 : Nat) (-1640531535 : Int32)) ∈ zTW := zin2 (List.mem_of_getElem? (i := 100) rfl)
theorem q341 : (Jvm.Cond.methodLink "SurveyStore$BlockTable" (48 : Nat) ({ cls := "SurveyStore$BlockTable", name := "isSame", desc := "(II)Z" } : Jvm.MethodName)) ∈ zTW := zin2 (List.mem_of_getElem? (i := 101) rfl)
theorem q342 : (Jvm.Cond.instanceMethod ({ cls := "SurveyStore$BlockTable", name := "isSame", desc := "(II)Z" } : Jvm.MethodName)) ∈ zTW := zin2 (List.mem_of_getElem? (i := 102) rfl)
theorem q343 : (Jvm.Cond.selects "SurveyStore$BlockTable" ({ cls := "SurveyStore$BlockTable", name := "isSame", desc := "(II)Z" } : Jvm.MethodName) ({ cls := "SurveyStore$BlockTable", name := "isSame", desc := "(II)Z" } : Jvm.MethodName)) ∈ zTW := zin2 (List.mem_of_getElem? (i := 103) rfl)
theorem q344 : (Jvm.Cond.code ({ cls := "SurveyStore$BlockTable", name := "isSame", desc := "(II)Z" } : Jvm.MethodName) prog_3_method_7_code (6 : Nat) (Option.some Jvm.ClassFile.FieldType.boolean)) ∈ zTW := zin2 (List.mem_of_getElem? (i := 104) rfl)
theorem q345 : (Jvm.Cond.methodLink "SurveyStoreLaw" (59 : Nat) ({ cls := "SurveyStoreLaw", name := "branch", desc := "(LSurveyStore;II)I" } : Jvm.MethodName)) ∈ zTW := zin2 (List.mem_of_getElem? (i := 105) rfl)
theorem q346 : (Jvm.Cond.static ({ cls := "SurveyStoreLaw", name := "branch", desc := "(LSurveyStore;II)I" } : Jvm.MethodName)) ∈ zTW := zin2 (List.mem_of_getElem? (i := 106) rfl)
theorem q347 : (Jvm.Cond.codeWith ({ cls := "SurveyStoreLaw", name := "branch", desc := "(LSurveyStore;II)I" } : Jvm.MethodName) method_3_code (4 : Nat) (Option.some Jvm.ClassFile.FieldType.int) [((0 : Nat), (6 : Nat), (9 : Nat), (13 : Nat)), ((0 : Nat), (6 : Nat), (12 : Nat), (15 : Nat))]) ∈ zTW := zin2 (List.mem_of_getElem? (i := 107) rfl)
theorem q348 : (Jvm.Cond.classLink "SurveyStoreLaw" (13 : Nat) "java/lang/IllegalArgumentException") ∈ zTW := zin2 (List.mem_of_getElem? (i := 108) rfl)
theorem q349 : (Jvm.Cond.classLink "SurveyStoreLaw" (15 : Nat) "java/lang/IllegalStateException") ∈ zTW := zin2 (List.mem_of_getElem? (i := 109) rfl)
theorem q350 : (Jvm.Cond.methodLink "SurveyStoreLaw" (7 : Nat) ({ cls := "SurveyStore", name := "branch", desc := "(II)V" } : Jvm.MethodName)) ∈ zTW := zin2 (List.mem_of_getElem? (i := 110) rfl)
theorem q351 : (Jvm.Cond.instanceMethod ({ cls := "SurveyStore", name := "branch", desc := "(II)V" } : Jvm.MethodName)) ∈ zTW := zin2 (List.mem_of_getElem? (i := 111) rfl)
theorem q352 : (Jvm.Cond.selects "SurveyStore" ({ cls := "SurveyStore", name := "branch", desc := "(II)V" } : Jvm.MethodName) ({ cls := "SurveyStore", name := "branch", desc := "(II)V" } : Jvm.MethodName)) ∈ zTW := zin2 (List.mem_of_getElem? (i := 112) rfl)
theorem q353 : (Jvm.Cond.code ({ cls := "SurveyStore", name := "branch", desc := "(II)V" } : Jvm.MethodName) prog_1_method_3_code (4 : Nat) (Option.none : Option Jvm.ClassFile.FieldType)) ∈ zTW := zin2 (List.mem_of_getElem? (i := 113) rfl)
theorem q354 : (Jvm.Cond.classLink "SurveyStore" (81 : Nat) "java/lang/IllegalArgumentException") ∈ zTW := zin2 (List.mem_of_getElem? (i := 114) rfl)
theorem q355 : (Jvm.Cond.instantiable "java/lang/IllegalArgumentException" (6 : Nat)) ∈ zTW := zin2 (List.mem_of_getElem? (i := 115) rfl)
theorem q356 : (Jvm.Cond.castable "java/lang/IllegalArgumentException" "java/lang/IllegalArgumentException") ∈ zTW := zin2 (List.mem_of_getElem? (i := 116) rfl)
theorem q357 : (Jvm.Cond.declares ({ cls := "java/lang/RuntimeException", name := "<init>", desc := "()V" } : Jvm.MethodName)) ∈ zTW := zin2 (List.mem_of_getElem? (i := 117) rfl)
theorem q358 : (Jvm.Cond.declares ({ cls := "java/lang/RuntimeException", name := "<init>", desc := "(Ljava/lang/String;)V" } : Jvm.MethodName)) ∈ zTW := zin2 (List.mem_of_getElem? (i := 118) rfl)
theorem q359 : (Jvm.Cond.declares ({ cls := "java/lang/Exception", name := "<init>", desc := "()V" } : Jvm.MethodName)) ∈ zTW := zin2 (List.mem_of_getElem? (i := 119) rfl)
theorem q360 : (Jvm.Cond.declares ({ cls := "java/lang/Exception", name := "<init>", desc := "(Ljava/lang/String;)V" } : Jvm.MethodName)) ∈ zTW := zin2 (List.mem_of_getElem? (i := 120) rfl)
theorem q361 : (Jvm.Cond.declares ({ cls := "java/lang/Throwable", name := "<init>", desc := "()V" } : Jvm.MethodName)) ∈ zTW := zin2 (List.mem_of_getElem? (i := 121) rfl)
theorem q362 : (Jvm.Cond.declares ({ cls := "java/lang/Throwable", name := "<init>", desc := "(Ljava/lang/String;)V" } : Jvm.MethodName)) ∈ zTW := zin2 (List.mem_of_getElem? (i := 122) rfl)
theorem q363 : (Jvm.Cond.selects "java/lang/IllegalArgumentException" ({ cls := "java/lang/Throwable", name := "fillInStackTrace", desc := "(I)Ljava/lang/Throwable;" } : Jvm.MethodName) ({ cls := "java/lang/Throwable", name := "fillInStackTrace", desc := "(I)Ljava/lang/Throwable;" } : Jvm.MethodName)) ∈ zTW := zin2 (List.mem_of_getElem? (i := 123) rfl)
theorem q364 : (Jvm.Cond.selects "java/lang/IllegalArgumentException" ({ cls := "java/lang/Throwable", name := "fillInStackTrace", desc := "()Ljava/lang/Throwable;" } : Jvm.MethodName) ({ cls := "java/lang/Throwable", name := "fillInStackTrace", desc := "()Ljava/lang/Throwable;" } : Jvm.MethodName)) ∈ zTW := zin2 (List.mem_of_getElem? (i := 124) rfl)
theorem q365 : (Jvm.Cond.lays "java/lang/IllegalArgumentException" "java/lang/Throwable" "cause" "Ljava/lang/Throwable;") ∈ zTW := zin2 (List.mem_of_getElem? (i := 125) rfl)
theorem q366 : (Jvm.Cond.lays "java/lang/Throwable" "java/lang/Throwable" "cause" "Ljava/lang/Throwable;") ∈ zTW := zin2 (List.mem_of_getElem? (i := 126) rfl)
theorem q367 : (Jvm.Cond.lays "java/lang/IllegalArgumentException" "java/lang/Throwable" "stackTrace" "[Ljava/lang/StackTraceElement;") ∈ zTW := zin2 (List.mem_of_getElem? (i := 127) rfl)
theorem q368 : (Jvm.Cond.lays "java/lang/Throwable" "java/lang/Throwable" "stackTrace" "[Ljava/lang/StackTraceElement;") ∈ zTW := zin2 (List.mem_of_getElem? (i := 128) rfl)
theorem q369 : (Jvm.Cond.lays "java/lang/IllegalArgumentException" "java/lang/Throwable" "suppressedExceptions" "Ljava/util/List;") ∈ zTW := zin2 (List.mem_of_getElem? (i := 129) rfl)
theorem q370 : (Jvm.Cond.lays "java/lang/Throwable" "java/lang/Throwable" "suppressedExceptions" "Ljava/util/List;") ∈ zTW := zin2 (List.mem_of_getElem? (i := 130) rfl)
theorem q371 : (Jvm.Cond.lays "java/lang/IllegalArgumentException" "java/lang/Throwable" "detailMessage" "Ljava/lang/String;") ∈ zTW := zin2 (List.mem_of_getElem? (i := 131) rfl)
theorem q372 : (Jvm.Cond.lays "java/lang/Throwable" "java/lang/Throwable" "detailMessage" "Ljava/lang/String;") ∈ zTW := zin2 (List.mem_of_getElem? (i := 132) rfl)
theorem q373 : (Jvm.Cond.lays "java/lang/IllegalArgumentException" "java/lang/Throwable" "backtrace" "Ljava/lang/Object;") ∈ zTW := zin2 (List.mem_of_getElem? (i := 133) rfl)
theorem q374 : (Jvm.Cond.lays "java/lang/Throwable" "java/lang/Throwable" "backtrace" "Ljava/lang/Object;") ∈ zTW := zin2 (List.mem_of_getElem? (i := 134) rfl)
theorem q375 : (Jvm.Cond.fieldLink "java/lang/Throwable" (198 : Nat) "java/lang/Throwable" "backtrace" "Ljava/lang/Object;") ∈ zTW := zin2 (List.mem_of_getElem? (i := 135) rfl)
theorem q376 : (Jvm.Cond.superclass "java/lang/Throwable" "java/lang/Object") ∈ zTW := zin2 (List.mem_of_getElem? (i := 136) rfl)
theorem q377 : (Jvm.Cond.instanceMethod ({ cls := "java/lang/Throwable", name := "<init>", desc := "()V" } : Jvm.MethodName)) ∈ zTW := zin2 (List.mem_of_getElem? (i := 137) rfl)
theorem q378 : (Jvm.Cond.code ({ cls := "java/lang/Throwable", name := "<init>", desc := "()V" } : Jvm.MethodName) prog_16_method_1_code (1 : Nat) (Option.none : Option Jvm.ClassFile.FieldType)) ∈ zTW := zin2 (List.mem_of_getElem? (i := 138) rfl)
theorem q379 : (Jvm.Cond.methodLink "java/lang/Throwable" (1 : Nat) ({ cls := "java/lang/Object", name := "<init>", desc := "()V" } : Jvm.MethodName)) ∈ zTW := zin2 (List.mem_of_getElem? (i := 139) rfl)
theorem q380 : (Jvm.Cond.fieldLink "java/lang/Throwable" (13 : Nat) "java/lang/Throwable" "UNASSIGNED_STACK" "[Ljava/lang/StackTraceElement;") ∈ zTW := zin2 (List.mem_of_getElem? (i := 140) rfl)
theorem q381 : (Jvm.Cond.laysStatic "java/lang/Throwable" "UNASSIGNED_STACK" "[Ljava/lang/StackTraceElement;") ∈ zTW := zin2 (List.mem_of_getElem? (i := 141) rfl)
theorem q382 : (Jvm.Cond.fieldLink "java/lang/Throwable" (20 : Nat) "java/lang/Throwable" "SUPPRESSED_SENTINEL" "Ljava/util/List;") ∈ zTW := zin2 (List.mem_of_getElem? (i := 142) rfl)
theorem q383 : (Jvm.Cond.laysStatic "java/lang/Throwable" "SUPPRESSED_SENTINEL" "Ljava/util/List;") ∈ zTW := zin2 (List.mem_of_getElem? (i := 143) rfl)
theorem q384 : (Jvm.Cond.methodLink "java/lang/Throwable" (27 : Nat) ({ cls := "java/lang/Throwable", name := "fillInStackTrace", desc := "()Ljava/lang/Throwable;" } : Jvm.MethodName)) ∈ zTW := zin2 (List.mem_of_getElem? (i := 144) rfl)
theorem q385 : (Jvm.Cond.instanceMethod ({ cls := "java/lang/Throwable", name := "fillInStackTrace", desc := "()Ljava/lang/Throwable;" } : Jvm.MethodName)) ∈ zTW := zin2 (List.mem_of_getElem? (i := 145) rfl)
theorem q386 : (Jvm.Cond.sameMethod "java/lang/Throwable" "java/lang/Throwable" "fillInStackTrace" "()Ljava/lang/Throwable;") ∈ zTW := zin2 (List.mem_of_getElem? (i := 146) rfl)
theorem q387 : (Jvm.Cond.selects "java/lang/IllegalStateException" ({ cls := "java/lang/Throwable", name := "fillInStackTrace", desc := "()Ljava/lang/Throwable;" } : Jvm.MethodName) ({ cls := "java/lang/Throwable", name := "fillInStackTrace", desc := "()Ljava/lang/Throwable;" } : Jvm.MethodName)) ∈ zTW := zin2 (List.mem_of_getElem? (i := 147) rfl)
theorem q388 : (Jvm.Cond.codeSync ({ cls := "java/lang/Throwable", name := "fillInStackTrace", desc := "()Ljava/lang/Throwable;" } : Jvm.MethodName) prog_16_method_18_code (1 : Nat) (Option.some (Jvm.ClassFile.FieldType.object "java/lang/Throwable"))) ∈ zTW := zin2 (List.mem_of_getElem? (i := 148) rfl)
theorem q389 : (Jvm.Cond.methodLink "java/lang/Throwable" (202 : Nat) ({ cls := "java/lang/Throwable", name := "fillInStackTrace", desc := "(I)Ljava/lang/Throwable;" } : Jvm.MethodName)) ∈ zTW := zin2 (List.mem_of_getElem? (i := 149) rfl)
theorem q390 : (Jvm.Cond.privateMethod ({ cls := "java/lang/Throwable", name := "fillInStackTrace", desc := "(I)Ljava/lang/Throwable;" } : Jvm.MethodName)) ∈ zTW := zin2 (List.mem_of_getElem? (i := 150) rfl)
theorem q391 : (Jvm.Cond.instanceMethod ({ cls := "java/lang/Throwable", name := "fillInStackTrace", desc := "(I)Ljava/lang/Throwable;" } : Jvm.MethodName)) ∈ zTW := zin2 (List.mem_of_getElem? (i := 151) rfl)
theorem q392 : (Jvm.Cond.instantiable "java/lang/Throwable" (6 : Nat)) ∈ zTW := zin2 (List.mem_of_getElem? (i := 152) rfl)
theorem q393 : (Jvm.Cond.native ({ cls := "java/lang/Throwable", name := "fillInStackTrace", desc := "(I)Ljava/lang/Throwable;" } : Jvm.MethodName)) ∈ zTW := zin2 (List.mem_of_getElem? (i := 153) rfl)
theorem q394 : (Jvm.Cond.methodLink "SurveyStore" (83 : Nat) ({ cls := "java/lang/IllegalArgumentException", name := "<init>", desc := "()V" } : Jvm.MethodName)) ∈ zTW := zin2 (List.mem_of_getElem? (i := 154) rfl)
theorem q395 : (Jvm.Cond.instanceMethod ({ cls := "java/lang/IllegalArgumentException", name := "<init>", desc := "()V" } : Jvm.MethodName)) ∈ zTW := zin2 (List.mem_of_getElem? (i := 155) rfl)
theorem q396 : (Jvm.Cond.code ({ cls := "java/lang/IllegalArgumentException", name := "<init>", desc := "()V" } : Jvm.MethodName) prog_11_method_1_code (1 : Nat) (Option.none : Option Jvm.ClassFile.FieldType)) ∈ zTW := zin2 (List.mem_of_getElem? (i := 156) rfl)
theorem q397 : (Jvm.Cond.methodLink "java/lang/IllegalArgumentException" (1 : Nat) ({ cls := "java/lang/RuntimeException", name := "<init>", desc := "()V" } : Jvm.MethodName)) ∈ zTW := zin2 (List.mem_of_getElem? (i := 157) rfl)
theorem q398 : (Jvm.Cond.instanceMethod ({ cls := "java/lang/RuntimeException", name := "<init>", desc := "()V" } : Jvm.MethodName)) ∈ zTW := zin2 (List.mem_of_getElem? (i := 158) rfl)
theorem q399 : (Jvm.Cond.code ({ cls := "java/lang/RuntimeException", name := "<init>", desc := "()V" } : Jvm.MethodName) prog_14_method_1_code (1 : Nat) (Option.none : Option Jvm.ClassFile.FieldType)) ∈ zTW := zin2 (List.mem_of_getElem? (i := 159) rfl)
theorem q400 : (Jvm.Cond.methodLink "java/lang/RuntimeException" (1 : Nat) ({ cls := "java/lang/Exception", name := "<init>", desc := "()V" } : Jvm.MethodName)) ∈ zTW := zin2 (List.mem_of_getElem? (i := 160) rfl)
theorem q401 : (Jvm.Cond.instanceMethod ({ cls := "java/lang/Exception", name := "<init>", desc := "()V" } : Jvm.MethodName)) ∈ zTW := zin2 (List.mem_of_getElem? (i := 161) rfl)
theorem q402 : (Jvm.Cond.code ({ cls := "java/lang/Exception", name := "<init>", desc := "()V" } : Jvm.MethodName) prog_10_method_1_code (1 : Nat) (Option.none : Option Jvm.ClassFile.FieldType)) ∈ zTW := zin2 (List.mem_of_getElem? (i := 162) rfl)
theorem q403 : (Jvm.Cond.methodLink "java/lang/Exception" (1 : Nat) ({ cls := "java/lang/Throwable", name := "<init>", desc := "()V" } : Jvm.MethodName)) ∈ zTW := zin2 (List.mem_of_getElem? (i := 163) rfl)
theorem q404 : (Jvm.Cond.fieldLink "java/lang/Throwable" (198 : Nat) "java/lang/Throwable" "backtrace" "Ljava/lang/Object;") ∈ zTW := zin2 (List.mem_of_getElem? (i := 164) rfl)
theorem q405 : (Jvm.Cond.fieldLink "java/lang/Throwable" (7 : Nat) "java/lang/Throwable" "cause" "Ljava/lang/Throwable;") ∈ zTW := zin2 (List.mem_of_getElem? (i := 165) rfl)
theorem q406 : (Jvm.Cond.fieldLink "java/lang/Throwable" (17 : Nat) "java/lang/Throwable" "stackTrace" "[Ljava/lang/StackTraceElement;") ∈ zTW := zin2 (List.mem_of_getElem? (i := 166) rfl)
theorem q407 : (Jvm.Cond.fieldLink "java/lang/Throwable" (24 : Nat) "java/lang/Throwable" "suppressedExceptions" "Ljava/util/List;") ∈ zTW := zin2 (List.mem_of_getElem? (i := 167) rfl)
theorem q408 : (Jvm.Cond.soleField "java/lang/Throwable" "backtrace") ∈ zTW := zin2 (List.mem_of_getElem? (i := 168) rfl)
theorem q409 : (Jvm.Cond.soleField "java/lang/Throwable" "detailMessage") ∈ zTW := zin2 (List.mem_of_getElem? (i := 169) rfl)
theorem q410 : (Jvm.Cond.soleField "java/lang/Throwable" "cause") ∈ zTW := zin2 (List.mem_of_getElem? (i := 170) rfl)
theorem q411 : (Jvm.Cond.soleField "java/lang/Throwable" "stackTrace") ∈ zTW := zin2 (List.mem_of_getElem? (i := 171) rfl)
theorem q412 : (Jvm.Cond.lays "java/lang/IllegalArgumentException" "java/lang/Throwable" "depth" "I") ∈ zTW := zin2 (List.mem_of_getElem? (i := 172) rfl)
theorem q413 : (Jvm.Cond.soleField "java/lang/Throwable" "depth") ∈ zTW := zin2 (List.mem_of_getElem? (i := 173) rfl)
theorem q414 : (Jvm.Cond.soleField "java/lang/Throwable" "suppressedExceptions") ∈ zTW := zin2 (List.mem_of_getElem? (i := 174) rfl)
theorem q415 : (Jvm.Cond.superclass "java/lang/IllegalArgumentException" "java/lang/RuntimeException") ∈ zTW := zin2 (List.mem_of_getElem? (i := 175) rfl)
theorem q416 : (Jvm.Cond.classLink "SurveyStore" (88 : Nat) "java/lang/IllegalStateException") ∈ zTW := zin2 (List.mem_of_getElem? (i := 176) rfl)
theorem q417 : (Jvm.Cond.instantiable "java/lang/IllegalStateException" (6 : Nat)) ∈ zTW := zin2 (List.mem_of_getElem? (i := 177) rfl)
theorem q418 : (Jvm.Cond.castable "java/lang/IllegalStateException" "java/lang/IllegalStateException") ∈ zTW := zin2 (List.mem_of_getElem? (i := 178) rfl)
theorem q419 : (Jvm.Cond.selects "java/lang/IllegalStateException" ({ cls := "java/lang/Throwable", name := "fillInStackTrace", desc := "(I)Ljava/lang/Throwable;" } : Jvm.MethodName) ({ cls := "java/lang/Throwable", name := "fillInStackTrace", desc := "(I)Ljava/lang/Throwable;" } : Jvm.MethodName)) ∈ zTW := zin2 (List.mem_of_getElem? (i := 179) rfl)
theorem q420 : (Jvm.Cond.lays "java/lang/IllegalStateException" "java/lang/Throwable" "cause" "Ljava/lang/Throwable;") ∈ zTW := zin2 (List.mem_of_getElem? (i := 180) rfl)
theorem q421 : (Jvm.Cond.lays "java/lang/IllegalStateException" "java/lang/Throwable" "stackTrace" "[Ljava/lang/StackTraceElement;") ∈ zTW := zin2 (List.mem_of_getElem? (i := 181) rfl)
theorem q422 : (Jvm.Cond.lays "java/lang/IllegalStateException" "java/lang/Throwable" "suppressedExceptions" "Ljava/util/List;") ∈ zTW := zin2 (List.mem_of_getElem? (i := 182) rfl)
theorem q423 : (Jvm.Cond.lays "java/lang/IllegalStateException" "java/lang/Throwable" "detailMessage" "Ljava/lang/String;") ∈ zTW := zin2 (List.mem_of_getElem? (i := 183) rfl)
theorem q424 : (Jvm.Cond.lays "java/lang/IllegalStateException" "java/lang/Throwable" "backtrace" "Ljava/lang/Object;") ∈ zTW := zin2 (List.mem_of_getElem? (i := 184) rfl)
theorem q425 : (Jvm.Cond.methodLink "SurveyStore" (90 : Nat) ({ cls := "java/lang/IllegalStateException", name := "<init>", desc := "()V" } : Jvm.MethodName)) ∈ zTW := zin2 (List.mem_of_getElem? (i := 185) rfl)
theorem q426 : (Jvm.Cond.instanceMethod ({ cls := "java/lang/IllegalStateException", name := "<init>", desc := "()V" } : Jvm.MethodName)) ∈ zTW := zin2 (List.mem_of_getElem? (i := 186) rfl)
theorem q427 : (Jvm.Cond.code ({ cls := "java/lang/IllegalStateException", name := "<init>", desc := "()V" } : Jvm.MethodName) prog_12_method_1_code (1 : Nat) (Option.none : Option Jvm.ClassFile.FieldType)) ∈ zTW := zin2 (List.mem_of_getElem? (i := 187) rfl)
theorem q428 : (Jvm.Cond.methodLink "java/lang/IllegalStateException" (1 : Nat) ({ cls := "java/lang/RuntimeException", name := "<init>", desc := "()V" } : Jvm.MethodName)) ∈ zTW := zin2 (List.mem_of_getElem? (i := 188) rfl)
theorem q429 : (Jvm.Cond.lays "java/lang/IllegalStateException" "java/lang/Throwable" "depth" "I") ∈ zTW := zin2 (List.mem_of_getElem? (i := 189) rfl)
theorem q430 : (Jvm.Cond.superclass "java/lang/IllegalStateException" "java/lang/RuntimeException") ∈ zTW := zin2 (List.mem_of_getElem? (i := 190) rfl)
theorem q431 : (Jvm.Cond.methodLink "SurveyStoreLaw" (79 : Nat) ({ cls := "SurveyStoreLaw", name := "paint", desc := "(LSurveyStore;III)I" } : Jvm.MethodName)) ∈ zTW := zin2 (List.mem_of_getElem? (i := 191) rfl)
theorem q432 : (Jvm.Cond.static ({ cls := "SurveyStoreLaw", name := "paint", desc := "(LSurveyStore;III)I" } : Jvm.MethodName)) ∈ zTW := zin2 (List.mem_of_getElem? (i := 192) rfl)
theorem q433 : (Jvm.Cond.codeWith ({ cls := "SurveyStoreLaw", name := "paint", desc := "(LSurveyStore;III)I" } : Jvm.MethodName) method_4_code (5 : Nat) (Option.some Jvm.ClassFile.FieldType.int) [((0 : Nat), (7 : Nat), (10 : Nat), (13 : Nat))]) ∈ zTW := zin2 (List.mem_of_getElem? (i := 193) rfl)
theorem q434 : (Jvm.Cond.methodLink "SurveyStoreLaw" (17 : Nat) ({ cls := "SurveyStore", name := "paint", desc := "(III)V" } : Jvm.MethodName)) ∈ zTW := zin2 (List.mem_of_getElem? (i := 194) rfl)
theorem q435 : (Jvm.Cond.instanceMethod ({ cls := "SurveyStore", name := "paint", desc := "(III)V" } : Jvm.MethodName)) ∈ zTW := zin2 (List.mem_of_getElem? (i := 195) rfl)
theorem q436 : (Jvm.Cond.selects "SurveyStore" ({ cls := "SurveyStore", name := "paint", desc := "(III)V" } : Jvm.MethodName) ({ cls := "SurveyStore", name := "paint", desc := "(III)V" } : Jvm.MethodName)) ∈ zTW := zin2 (List.mem_of_getElem? (i := 196) rfl)
theorem q437 : (Jvm.Cond.code ({ cls := "SurveyStore", name := "paint", desc := "(III)V" } : Jvm.MethodName) prog_1_method_6_code (7 : Nat) (Option.none : Option Jvm.ClassFile.FieldType)) ∈ zTW := zin2 (List.mem_of_getElem? (i := 197) rfl)
theorem q438 : (Jvm.Cond.methodLink "SurveyStore" (109 : Nat) ({ cls := "SurveyStore", name := "branchToEdit", desc := "(II)LSurveyStore$Branch;" } : Jvm.MethodName)) ∈ zTW := zin2 (List.mem_of_getElem? (i := 198) rfl)
theorem q439 : (Jvm.Cond.privateMethod ({ cls := "SurveyStore", name := "branchToEdit", desc := "(II)LSurveyStore$Branch;" } : Jvm.MethodName)) ∈ zTW := zin2 (List.mem_of_getElem? (i := 199) rfl)
theorem q440 : (Jvm.Cond.instanceMethod ({ cls := "SurveyStore", name := "branchToEdit", desc := "(II)LSurveyStore$Branch;" } : Jvm.MethodName)) ∈ zTW := zin2 (List.mem_of_getElem? (i := 200) rfl)
theorem q441 : (Jvm.Cond.code ({ cls := "SurveyStore", name := "branchToEdit", desc := "(II)LSurveyStore$Branch;" } : Jvm.MethodName) prog_1_method_46_code (4 : Nat) (Option.some (Jvm.ClassFile.FieldType.object "SurveyStore$Branch"))) ∈ zTW := zin2 (List.mem_of_getElem? (i := 201) rfl)
theorem q442 : (Jvm.Cond.methodLink "SurveyStore" (113 : Nat) ({ cls := "SurveyStore", name := "refuseUnlessValue", desc := "(I)V" } : Jvm.MethodName)) ∈ zTW := zin2 (List.mem_of_getElem? (i := 202) rfl)
theorem q443 : (Jvm.Cond.static ({ cls := "SurveyStore", name := "refuseUnlessValue", desc := "(I)V" } : Jvm.MethodName)) ∈ zTW := zin2 (List.mem_of_getElem? (i := 203) rfl)
theorem q444 : (Jvm.Cond.code ({ cls := "SurveyStore", name := "refuseUnlessValue", desc := "(I)V" } : Jvm.MethodName) prog_1_method_47_code (1 : Nat) (Option.none : Option Jvm.ClassFile.FieldType)) ∈ zTW := zin2 (List.mem_of_getElem? (i := 204) rfl)
theorem q445 : (Jvm.Cond.methodLink "SurveyStore" (121 : Nat) ({ cls := "SurveyStore$Branch", name := "set", desc := "(II)V" } : Jvm.MethodName)) ∈ zTW := zin2 (List.mem_of_getElem? (i := 205) rfl)
theorem q446 : (Jvm.Cond.instanceMethod ({ cls := "SurveyStore$Branch", name := "set", desc := "(II)V" } : Jvm.MethodName)) ∈ zTW := zin2 (List.mem_of_getElem? (i := 206) rfl)
theorem q447 : (Jvm.Cond.selects "SurveyStore$Branch" ({ cls := "SurveyStore$Branch", name := "set", desc := "(II)V" } : Jvm.MethodName) ({ cls := "SurveyStore$Branch", name := "set", desc := "(II)V" } : Jvm.MethodName)) ∈ zTW := zin2 (List.mem_of_getElem? (i := 207) rfl)
theorem q448 : (Jvm.Cond.code ({ cls := "SurveyStore$Branch", name := "set", desc := "(II)V" } : Jvm.MethodName) prog_4_method_6_code (3 : Nat) (Option.none : Option Jvm.ClassFile.FieldType)) ∈ zTW := zin2 (List.mem_of_getElem? (i := 208) rfl)
theorem q449 : (Jvm.Cond.constant "SurveyStore$Branch" (49 : Nat) (-2147483648 : Int32)) ∈ zTW := zin2 (List.mem_of_getElem? (i := 209) rfl)
theorem q450 : (Jvm.Cond.constantLong "SurveyStore$Branch" (50 : Nat) (-9223372036854775808 : Int64)) ∈ zTW := zin2 (List.mem_of_getElem? (i := 210) rfl)
theorem q451 : (Jvm.Cond.methodLinkNest "SurveyStore$Branch" (52 : Nat) ({ cls := "SurveyStore", name := "originOf", desc := "(II)I" } : Jvm.MethodName) "SurveyStore") ∈ zTW := zin2 (List.mem_of_getElem? (i := 211) rfl)
theorem q452 : (Jvm.Cond.static ({ cls := "SurveyStore", name := "originOf", desc := "(II)I" } : Jvm.MethodName)) ∈ zTW := zin2 (List.mem_of_getElem? (i := 212) rfl)
theorem q453 : (Jvm.Cond.code ({ cls := "SurveyStore", name := "originOf", desc := "(II)I" } : Jvm.MethodName) prog_1_method_37_code (2 : Nat) (Option.some Jvm.ClassFile.FieldType.int)) ∈ zTW := zin2 (List.mem_of_getElem? (i := 213) rfl)
theorem q454 : (Jvm.Cond.methodLinkNest "SurveyStore$Branch" (56 : Nat) ({ cls := "SurveyStore", name := "cellOf", desc := "(II)J" } : Jvm.MethodName) "SurveyStore") ∈ zTW := zin2 (List.mem_of_getElem? (i := 214) rfl)
theorem q455 : (Jvm.Cond.static ({ cls := "SurveyStore", name := "cellOf", desc := "(II)J" } : Jvm.MethodName)) ∈ zTW := zin2 (List.mem_of_getElem? (i := 215) rfl)
theorem q456 : (Jvm.Cond.code ({ cls := "SurveyStore", name := "cellOf", desc := "(II)J" } : Jvm.MethodName) prog_1_method_35_code (2 : Nat) (Option.some Jvm.ClassFile.FieldType.long)) ∈ zTW := zin2 (List.mem_of_getElem? (i := 216) rfl)
theorem q457 : (Jvm.Cond.methodLink "SurveyStoreLaw" (88 : Nat) ({ cls := "SurveyStoreLaw", name := "polygon", desc := "(LSurveyStore;IIII)I" } : Jvm.MethodName)) ∈ zTW := zin2 (List.mem_of_getElem? (i := 217) rfl)
theorem q458 : (Jvm.Cond.static ({ cls := "SurveyStoreLaw", name := "polygon", desc := "(LSurveyStore;IIII)I" } : Jvm.MethodName)) ∈ zTW := zin2 (List.mem_of_getElem? (i := 218) rfl)
theorem q459 : (Jvm.Cond.codeWith ({ cls := "SurveyStoreLaw", name := "polygon", desc := "(LSurveyStore;IIII)I" } : Jvm.MethodName) method_5_code (6 : Nat) (Option.some Jvm.ClassFile.FieldType.int) [((0 : Nat), (9 : Nat), (12 : Nat), (13 : Nat))]) ∈ zTW := zin2 (List.mem_of_getElem? (i := 219) rfl)
theorem q460 : (Jvm.Cond.methodLink "SurveyStoreLaw" (21 : Nat) ({ cls := "SurveyStore", name := "polygon", desc := "(IIII)V" } : Jvm.MethodName)) ∈ zTW := zin2 (List.mem_of_getElem? (i := 220) rfl)
theorem q461 : (Jvm.Cond.instanceMethod ({ cls := "SurveyStore", name := "polygon", desc := "(IIII)V" } : Jvm.MethodName)) ∈ zTW := zin2 (List.mem_of_getElem? (i := 221) rfl)
theorem q462 : (Jvm.Cond.selects "SurveyStore" ({ cls := "SurveyStore", name := "polygon", desc := "(IIII)V" } : Jvm.MethodName) ({ cls := "SurveyStore", name := "polygon", desc := "(IIII)V" } : Jvm.MethodName)) ∈ zTW := zin2 (List.mem_of_getElem? (i := 222) rfl)
theorem q463 : (Jvm.Cond.code ({ cls := "SurveyStore", name := "polygon", desc := "(IIII)V" } : Jvm.MethodName) prog_1_method_8_code (8 : Nat) (Option.none : Option Jvm.ClassFile.FieldType)) ∈ zTW := zin2 (List.mem_of_getElem? (i := 223) rfl)
theorem q464 : (Jvm.Cond.methodLink "SurveyStore" (128 : Nat) ({ cls := "SurveyStore", name := "isInside", desc := "(III)Z" } : Jvm.MethodName)) ∈ zTW := zin2 (List.mem_of_getElem? (i := 224) rfl)
theorem q465 : (Jvm.Cond.privateMethod ({ cls := "SurveyStore", name := "isInside", desc := "(III)Z" } : Jvm.MethodName)) ∈ zTW := zin2 (List.mem_of_getElem? (i := 225) rfl)
theorem q466 : (Jvm.Cond.instanceMethod ({ cls := "SurveyStore", name := "isInside", desc := "(III)Z" } : Jvm.MethodName)) ∈ zTW := zin2 (List.mem_of_getElem? (i := 226) rfl)
theorem q467 : (Jvm.Cond.code ({ cls := "SurveyStore", name := "isInside", desc := "(III)Z" } : Jvm.MethodName) prog_1_method_49_code (6 : Nat) (Option.some Jvm.ClassFile.FieldType.boolean)) ∈ zTW := zin2 (List.mem_of_getElem? (i := 227) rfl)
theorem q468 : (Jvm.Cond.methodLink "SurveyStore" (293 : Nat) ({ cls := "SurveyStore", name := "isRightOf", desc := "(IIII)Z" } : Jvm.MethodName)) ∈ zTW := zin2 (List.mem_of_getElem? (i := 228) rfl)
theorem q469 : (Jvm.Cond.privateMethod ({ cls := "SurveyStore", name := "isRightOf", desc := "(IIII)Z" } : Jvm.MethodName)) ∈ zTW := zin2 (List.mem_of_getElem? (i := 229) rfl)
theorem q470 : (Jvm.Cond.instanceMethod ({ cls := "SurveyStore", name := "isRightOf", desc := "(IIII)Z" } : Jvm.MethodName)) ∈ zTW := zin2 (List.mem_of_getElem? (i := 230) rfl)
theorem q471 : (Jvm.Cond.code ({ cls := "SurveyStore", name := "isRightOf", desc := "(IIII)Z" } : Jvm.MethodName) prog_1_method_50_code (11 : Nat) (Option.some Jvm.ClassFile.FieldType.boolean)) ∈ zTW := zin2 (List.mem_of_getElem? (i := 231) rfl)
theorem q472 : (Jvm.Cond.methodLink "SurveyStoreLaw" (92 : Nat) ({ cls := "SurveyStoreLaw", name := "copy", desc := "(LSurveyStore;IIIIII)I" } : Jvm.MethodName)) ∈ zTW := zin2 (List.mem_of_getElem? (i := 232) rfl)
theorem q473 : (Jvm.Cond.static ({ cls := "SurveyStoreLaw", name := "copy", desc := "(LSurveyStore;IIIIII)I" } : Jvm.MethodName)) ∈ zTW := zin2 (List.mem_of_getElem? (i := 233) rfl)
theorem q474 : (Jvm.Cond.codeWith ({ cls := "SurveyStoreLaw", name := "copy", desc := "(LSurveyStore;IIIIII)I" } : Jvm.MethodName) method_6_code (8 : Nat) (Option.some Jvm.ClassFile.FieldType.int) [((0 : Nat), (13 : Nat), (16 : Nat), (13 : Nat))]) ∈ zTW := zin2 (List.mem_of_getElem? (i := 234) rfl)
theorem q475 : (Jvm.Cond.methodLink "SurveyStoreLaw" (25 : Nat) ({ cls := "SurveyStore", name := "copy", desc := "(IIIIII)V" } : Jvm.MethodName)) ∈ zTW := zin2 (List.mem_of_getElem? (i := 235) rfl)
theorem q476 : (Jvm.Cond.instanceMethod ({ cls := "SurveyStore", name := "copy", desc := "(IIIIII)V" } : Jvm.MethodName)) ∈ zTW := zin2 (List.mem_of_getElem? (i := 236) rfl)
theorem q477 : (Jvm.Cond.selects "SurveyStore" ({ cls := "SurveyStore", name := "copy", desc := "(IIIIII)V" } : Jvm.MethodName) ({ cls := "SurveyStore", name := "copy", desc := "(IIIIII)V" } : Jvm.MethodName)) ∈ zTW := zin2 (List.mem_of_getElem? (i := 237) rfl)
theorem q478 : (Jvm.Cond.code ({ cls := "SurveyStore", name := "copy", desc := "(IIIIII)V" } : Jvm.MethodName) prog_1_method_9_code (11 : Nat) (Option.none : Option Jvm.ClassFile.FieldType)) ∈ zTW := zin2 (List.mem_of_getElem? (i := 238) rfl)
theorem q479 : (Jvm.Cond.methodLink "SurveyStore" (133 : Nat) ({ cls := "java/lang/System", name := "arraycopy", desc := "(Ljava/lang/Object;ILjava/lang/Object;II)V" } : Jvm.MethodName)) ∈ zTW := zin2 (List.mem_of_getElem? (i := 239) rfl)
theorem q480 : (Jvm.Cond.methodLink "SurveyStoreLaw" (100 : Nat) ({ cls := "SurveyStoreLaw", name := "map", desc := "(LSurveyStore;II)I" } : Jvm.MethodName)) ∈ zTW := zin3 (List.mem_of_getElem? (i := 0) rfl)
theorem q481 : (Jvm.Cond.static ({ cls := "SurveyStoreLaw", name := "map", desc := "(LSurveyStore;II)I" } : Jvm.MethodName)) ∈ zTW := zin3 (List.mem_of_getElem? (i := 1) rfl)
theorem q482 : (Jvm.Cond.codeWith ({ cls := "SurveyStoreLaw", name := "map", desc := "(LSurveyStore;II)I" } : Jvm.MethodName) method_7_code (4 : Nat) (Option.some Jvm.ClassFile.FieldType.int) [((0 : Nat), (6 : Nat), (9 : Nat), (13 : Nat))]) ∈ zTW := zin3 (List.mem_of_getElem? (i := 2) rfl)
theorem q483 : (Jvm.Cond.methodLink "SurveyStoreLaw" (29 : Nat) ({ cls := "SurveyStore", name := "map", desc := "(II)V" } : Jvm.MethodName)) ∈ zTW := zin3 (List.mem_of_getElem? (i := 3) rfl)
theorem q484 : (Jvm.Cond.instanceMethod ({ cls := "SurveyStore", name := "map", desc := "(II)V" } : Jvm.MethodName)) ∈ zTW := zin3 (List.mem_of_getElem? (i := 4) rfl)
theorem q485 : (Jvm.Cond.selects "SurveyStore" ({ cls := "SurveyStore", name := "map", desc := "(II)V" } : Jvm.MethodName) ({ cls := "SurveyStore", name := "map", desc := "(II)V" } : Jvm.MethodName)) ∈ zTW := zin3 (List.mem_of_getElem? (i := 5) rfl)
theorem q486 : (Jvm.Cond.code ({ cls := "SurveyStore", name := "map", desc := "(II)V" } : Jvm.MethodName) prog_1_method_11_code (8 : Nat) (Option.none : Option Jvm.ClassFile.FieldType)) ∈ zTW := zin3 (List.mem_of_getElem? (i := 6) rfl)
theorem q487 : (Jvm.Cond.methodLink "SurveyStore" (146 : Nat) ({ cls := "SurveyStore", name := "mapped", desc := "(I)I" } : Jvm.MethodName)) ∈ zTW := zin3 (List.mem_of_getElem? (i := 7) rfl)
theorem q488 : (Jvm.Cond.privateMethod ({ cls := "SurveyStore", name := "mapped", desc := "(I)I" } : Jvm.MethodName)) ∈ zTW := zin3 (List.mem_of_getElem? (i := 8) rfl)
theorem q489 : (Jvm.Cond.instanceMethod ({ cls := "SurveyStore", name := "mapped", desc := "(I)I" } : Jvm.MethodName)) ∈ zTW := zin3 (List.mem_of_getElem? (i := 9) rfl)
theorem q490 : (Jvm.Cond.code ({ cls := "SurveyStore", name := "mapped", desc := "(I)I" } : Jvm.MethodName) prog_1_method_51_code (3 : Nat) (Option.some Jvm.ClassFile.FieldType.int)) ∈ zTW := zin3 (List.mem_of_getElem? (i := 10) rfl)
theorem q491 : (Jvm.Cond.methodLink "SurveyStore" (150 : Nat) ({ cls := "SurveyStore", name := "setIfOther", desc := "(LSurveyStore$Branch;II)V" } : Jvm.MethodName)) ∈ zTW := zin3 (List.mem_of_getElem? (i := 11) rfl)
theorem q492 : (Jvm.Cond.static ({ cls := "SurveyStore", name := "setIfOther", desc := "(LSurveyStore$Branch;II)V" } : Jvm.MethodName)) ∈ zTW := zin3 (List.mem_of_getElem? (i := 12) rfl)
theorem q493 : (Jvm.Cond.code ({ cls := "SurveyStore", name := "setIfOther", desc := "(LSurveyStore$Branch;II)V" } : Jvm.MethodName) prog_1_method_48_code (3 : Nat) (Option.none : Option Jvm.ClassFile.FieldType)) ∈ zTW := zin3 (List.mem_of_getElem? (i := 13) rfl)
theorem q494 : (Jvm.Cond.methodLink "SurveyStoreLaw" (103 : Nat) ({ cls := "SurveyStoreLaw", name := "combine", desc := "(LSurveyStore;IIII)I" } : Jvm.MethodName)) ∈ zTW := zin3 (List.mem_of_getElem? (i := 14) rfl)
theorem q495 : (Jvm.Cond.static ({ cls := "SurveyStoreLaw", name := "combine", desc := "(LSurveyStore;IIII)I" } : Jvm.MethodName)) ∈ zTW := zin3 (List.mem_of_getElem? (i := 15) rfl)
theorem q496 : (Jvm.Cond.codeWith ({ cls := "SurveyStoreLaw", name := "combine", desc := "(LSurveyStore;IIII)I" } : Jvm.MethodName) method_8_code (6 : Nat) (Option.some Jvm.ClassFile.FieldType.int) [((0 : Nat), (9 : Nat), (12 : Nat), (13 : Nat))]) ∈ zTW := zin3 (List.mem_of_getElem? (i := 16) rfl)
theorem q497 : (Jvm.Cond.methodLink "SurveyStoreLaw" (32 : Nat) ({ cls := "SurveyStore", name := "combine", desc := "(IIII)V" } : Jvm.MethodName)) ∈ zTW := zin3 (List.mem_of_getElem? (i := 17) rfl)
theorem q498 : (Jvm.Cond.instanceMethod ({ cls := "SurveyStore", name := "combine", desc := "(IIII)V" } : Jvm.MethodName)) ∈ zTW := zin3 (List.mem_of_getElem? (i := 18) rfl)
theorem q499 : (Jvm.Cond.selects "SurveyStore" ({ cls := "SurveyStore", name := "combine", desc := "(IIII)V" } : Jvm.MethodName) ({ cls := "SurveyStore", name := "combine", desc := "(IIII)V" } : Jvm.MethodName)) ∈ zTW := zin3 (List.mem_of_getElem? (i := 19) rfl)
theorem q500 : (Jvm.Cond.code ({ cls := "SurveyStore", name := "combine", desc := "(IIII)V" } : Jvm.MethodName) prog_1_method_12_code (11 : Nat) (Option.none : Option Jvm.ClassFile.FieldType)) ∈ zTW := zin3 (List.mem_of_getElem? (i := 20) rfl)
theorem q501 : (Jvm.Cond.methodLink "SurveyStore" (154 : Nat) ({ cls := "SurveyStore", name := "combined", desc := "(III)I" } : Jvm.MethodName)) ∈ zTW := zin3 (List.mem_of_getElem? (i := 21) rfl)
theorem q502 : (Jvm.Cond.static ({ cls := "SurveyStore", name := "combined", desc := "(III)I" } : Jvm.MethodName)) ∈ zTW := zin3 (List.mem_of_getElem? (i := 22) rfl)
theorem q503 : (Jvm.Cond.code ({ cls := "SurveyStore", name := "combined", desc := "(III)I" } : Jvm.MethodName) prog_1_method_52_code (3 : Nat) (Option.some Jvm.ClassFile.FieldType.int)) ∈ zTW := zin3 (List.mem_of_getElem? (i := 23) rfl)
theorem q504 : (Jvm.Cond.methodLink "SurveyStore" (252 : Nat) ({ cls := "java/lang/Math", name := "min", desc := "(II)I" } : Jvm.MethodName)) ∈ zTW := zin3 (List.mem_of_getElem? (i := 24) rfl)
theorem q505 : (Jvm.Cond.static ({ cls := "java/lang/Math", name := "min", desc := "(II)I" } : Jvm.MethodName)) ∈ zTW := zin3 (List.mem_of_getElem? (i := 25) rfl)
theorem q506 : (Jvm.Cond.code ({ cls := "java/lang/Math", name := "min", desc := "(II)I" } : Jvm.MethodName) prog_13_method_69_code (2 : Nat) (Option.some Jvm.ClassFile.FieldType.int)) ∈ zTW := zin3 (List.mem_of_getElem? (i := 26) rfl)
theorem q507 : (Jvm.Cond.methodLink "SurveyStore" (257 : Nat) ({ cls := "java/lang/Math", name := "max", desc := "(II)I" } : Jvm.MethodName)) ∈ zTW := zin3 (List.mem_of_getElem? (i := 27) rfl)
theorem q508 : (Jvm.Cond.static ({ cls := "java/lang/Math", name := "max", desc := "(II)I" } : Jvm.MethodName)) ∈ zTW := zin3 (List.mem_of_getElem? (i := 28) rfl)
theorem q509 : (Jvm.Cond.code ({ cls := "java/lang/Math", name := "max", desc := "(II)I" } : Jvm.MethodName) prog_13_method_65_code (2 : Nat) (Option.some Jvm.ClassFile.FieldType.int)) ∈ zTW := zin3 (List.mem_of_getElem? (i := 29) rfl)
theorem q510 : (Jvm.Cond.methodLink "SurveyStoreLaw" (106 : Nat) ({ cls := "SurveyStoreLaw", name := "commit", desc := "(LSurveyStore;I[J)I" } : Jvm.MethodName)) ∈ zTW := zin3 (List.mem_of_getElem? (i := 30) rfl)
theorem q511 : (Jvm.Cond.static ({ cls := "SurveyStoreLaw", name := "commit", desc := "(LSurveyStore;I[J)I" } : Jvm.MethodName)) ∈ zTW := zin3 (List.mem_of_getElem? (i := 31) rfl)
theorem q512 : (Jvm.Cond.codeWith ({ cls := "SurveyStoreLaw", name := "commit", desc := "(LSurveyStore;I[J)I" } : Jvm.MethodName) method_9_code (4 : Nat) (Option.some Jvm.ClassFile.FieldType.int) [((0 : Nat), (9 : Nat), (12 : Nat), (13 : Nat)), ((0 : Nat), (9 : Nat), (15 : Nat), (15 : Nat))]) ∈ zTW := zin3 (List.mem_of_getElem? (i := 32) rfl)
theorem q513 : (Jvm.Cond.methodLink "SurveyStoreLaw" (35 : Nat) ({ cls := "SurveyStore", name := "commit", desc := "(I)I" } : Jvm.MethodName)) ∈ zTW := zin3 (List.mem_of_getElem? (i := 33) rfl)
theorem q514 : (Jvm.Cond.instanceMethod ({ cls := "SurveyStore", name := "commit", desc := "(I)I" } : Jvm.MethodName)) ∈ zTW := zin3 (List.mem_of_getElem? (i := 34) rfl)
theorem q515 : (Jvm.Cond.selects "SurveyStore" ({ cls := "SurveyStore", name := "commit", desc := "(I)I" } : Jvm.MethodName) ({ cls := "SurveyStore", name := "commit", desc := "(I)I" } : Jvm.MethodName)) ∈ zTW := zin3 (List.mem_of_getElem? (i := 35) rfl)
theorem q516 : (Jvm.Cond.code ({ cls := "SurveyStore", name := "commit", desc := "(I)I" } : Jvm.MethodName) prog_1_method_13_code (5 : Nat) (Option.some Jvm.ClassFile.FieldType.int)) ∈ zTW := zin3 (List.mem_of_getElem? (i := 36) rfl)
theorem q517 : (Jvm.Cond.methodLink "SurveyStore" (161 : Nat) ({ cls := "SurveyStore$Branch", name := "hasUnsettled", desc := "()Z" } : Jvm.MethodName)) ∈ zTW := zin3 (List.mem_of_getElem? (i := 37) rfl)
theorem q518 : (Jvm.Cond.instanceMethod ({ cls := "SurveyStore$Branch", name := "hasUnsettled", desc := "()Z" } : Jvm.MethodName)) ∈ zTW := zin3 (List.mem_of_getElem? (i := 38) rfl)
theorem q519 : (Jvm.Cond.selects "SurveyStore$Branch" ({ cls := "SurveyStore$Branch", name := "hasUnsettled", desc := "()Z" } : Jvm.MethodName) ({ cls := "SurveyStore$Branch", name := "hasUnsettled", desc := "()Z" } : Jvm.MethodName)) ∈ zTW := zin3 (List.mem_of_getElem? (i := 39) rfl)
theorem q520 : (Jvm.Cond.code ({ cls := "SurveyStore$Branch", name := "hasUnsettled", desc := "()Z" } : Jvm.MethodName) prog_4_method_5_code (1 : Nat) (Option.some Jvm.ClassFile.FieldType.boolean)) ∈ zTW := zin3 (List.mem_of_getElem? (i := 40) rfl)
theorem q521 : (Jvm.Cond.methodLink "SurveyStore" (165 : Nat) ({ cls := "SurveyStore", name := "claimPending", desc := "([JI)V" } : Jvm.MethodName)) ∈ zTW := zin3 (List.mem_of_getElem? (i := 41) rfl)
theorem q522 : (Jvm.Cond.static ({ cls := "SurveyStore", name := "claimPending", desc := "([JI)V" } : Jvm.MethodName)) ∈ zTW := zin3 (List.mem_of_getElem? (i := 42) rfl)
theorem q523 : (Jvm.Cond.code ({ cls := "SurveyStore", name := "claimPending", desc := "([JI)V" } : Jvm.MethodName) prog_1_method_54_code (3 : Nat) (Option.none : Option Jvm.ClassFile.FieldType)) ∈ zTW := zin3 (List.mem_of_getElem? (i := 43) rfl)
theorem q524 : (Jvm.Cond.methodLink "SurveyStore" (297 : Nat) ({ cls := "SurveyStore", name := "originOf", desc := "(II)I" } : Jvm.MethodName)) ∈ zTW := zin3 (List.mem_of_getElem? (i := 44) rfl)
theorem q525 : (Jvm.Cond.methodLink "SurveyStore" (300 : Nat) ({ cls := "SurveyStore", name := "cellOf", desc := "(II)J" } : Jvm.MethodName)) ∈ zTW := zin3 (List.mem_of_getElem? (i := 45) rfl)
theorem q526 : (Jvm.Cond.methodLink "SurveyStore" (178 : Nat) ({ cls := "[J", name := "clone", desc := "()Ljava/lang/Object;" } : Jvm.MethodName)) ∈ zTW := zin3 (List.mem_of_getElem? (i := 46) rfl)
theorem q527 : (Jvm.Cond.sameMethod "[J" "java/lang/Object" "clone" "()Ljava/lang/Object;") ∈ zTW := zin3 (List.mem_of_getElem? (i := 47) rfl)
theorem q528 : (Jvm.Cond.native ({ cls := "java/lang/Object", name := "clone", desc := "()Ljava/lang/Object;" } : Jvm.MethodName)) ∈ zTW := zin3 (List.mem_of_getElem? (i := 48) rfl)
theorem q529 : (Jvm.Cond.instanceMethod ({ cls := "java/lang/Object", name := "clone", desc := "()Ljava/lang/Object;" } : Jvm.MethodName)) ∈ zTW := zin3 (List.mem_of_getElem? (i := 49) rfl)
theorem q530 : (Jvm.Cond.selects "[J" ({ cls := "[J", name := "clone", desc := "()Ljava/lang/Object;" } : Jvm.MethodName) ({ cls := "java/lang/Object", name := "clone", desc := "()Ljava/lang/Object;" } : Jvm.MethodName)) ∈ zTW := zin3 (List.mem_of_getElem? (i := 50) rfl)
theorem q531 : (Jvm.Cond.castable "[J" "java/lang/Cloneable") ∈ zTW := zin3 (List.mem_of_getElem? (i := 51) rfl)
theorem q532 : (Jvm.Cond.classLink "SurveyStore" (179 : Nat) "[J") ∈ zTW := zin3 (List.mem_of_getElem? (i := 52) rfl)
theorem q533 : (Jvm.Cond.methodLink "SurveyStore" (183 : Nat) ({ cls := "SurveyStore$Branch", name := "restAt", desc := "(I)V" } : Jvm.MethodName)) ∈ zTW := zin3 (List.mem_of_getElem? (i := 53) rfl)
theorem q534 : (Jvm.Cond.methodLink "SurveyStoreLaw" (110 : Nat) ({ cls := "SurveyStoreLaw", name := "merge", desc := "(LSurveyStore;II[J)I" } : Jvm.MethodName)) ∈ zTW := zin3 (List.mem_of_getElem? (i := 54) rfl)
theorem q535 : (Jvm.Cond.static ({ cls := "SurveyStoreLaw", name := "merge", desc := "(LSurveyStore;II[J)I" } : Jvm.MethodName)) ∈ zTW := zin3 (List.mem_of_getElem? (i := 55) rfl)
theorem q536 : (Jvm.Cond.codeWith ({ cls := "SurveyStoreLaw", name := "merge", desc := "(LSurveyStore;II[J)I" } : Jvm.MethodName) method_10_code (5 : Nat) (Option.some Jvm.ClassFile.FieldType.int) [((0 : Nat), (10 : Nat), (13 : Nat), (13 : Nat)), ((0 : Nat), (10 : Nat), (17 : Nat), (15 : Nat))]) ∈ zTW := zin3 (List.mem_of_getElem? (i := 56) rfl)
theorem q537 : (Jvm.Cond.methodLink "SurveyStoreLaw" (39 : Nat) ({ cls := "SurveyStore", name := "merge", desc := "(II)I" } : Jvm.MethodName)) ∈ zTW := zin3 (List.mem_of_getElem? (i := 57) rfl)
theorem q538 : (Jvm.Cond.instanceMethod ({ cls := "SurveyStore", name := "merge", desc := "(II)I" } : Jvm.MethodName)) ∈ zTW := zin3 (List.mem_of_getElem? (i := 58) rfl)
theorem q539 : (Jvm.Cond.selects "SurveyStore" ({ cls := "SurveyStore", name := "merge", desc := "(II)I" } : Jvm.MethodName) ({ cls := "SurveyStore", name := "merge", desc := "(II)I" } : Jvm.MethodName)) ∈ zTW := zin3 (List.mem_of_getElem? (i := 59) rfl)
theorem q540 : (Jvm.Cond.code ({ cls := "SurveyStore", name := "merge", desc := "(II)I" } : Jvm.MethodName) prog_1_method_14_code (7 : Nat) (Option.some Jvm.ClassFile.FieldType.int)) ∈ zTW := zin3 (List.mem_of_getElem? (i := 60) rfl)
theorem q541 : (Jvm.Cond.methodLink "SurveyStore" (189 : Nat) ({ cls := "SurveyStore", name := "baseOf", desc := "(III)LSurveyStore$BaseRow;" } : Jvm.MethodName)) ∈ zTW := zin3 (List.mem_of_getElem? (i := 61) rfl)
theorem q542 : (Jvm.Cond.privateMethod ({ cls := "SurveyStore", name := "baseOf", desc := "(III)LSurveyStore$BaseRow;" } : Jvm.MethodName)) ∈ zTW := zin3 (List.mem_of_getElem? (i := 62) rfl)
theorem q543 : (Jvm.Cond.instanceMethod ({ cls := "SurveyStore", name := "baseOf", desc := "(III)LSurveyStore$BaseRow;" } : Jvm.MethodName)) ∈ zTW := zin3 (List.mem_of_getElem? (i := 63) rfl)
theorem q544 : (Jvm.Cond.code ({ cls := "SurveyStore", name := "baseOf", desc := "(III)LSurveyStore$BaseRow;" } : Jvm.MethodName) prog_1_method_57_code (8 : Nat) (Option.some (Jvm.ClassFile.FieldType.object "SurveyStore$BaseRow"))) ∈ zTW := zin3 (List.mem_of_getElem? (i := 64) rfl)
theorem q545 : (Jvm.Cond.methodLink "SurveyStore" (307 : Nat) ({ cls := "SurveyStore", name := "baseRowAt", desc := "(I)LSurveyStore$BaseRow;" } : Jvm.MethodName)) ∈ zTW := zin3 (List.mem_of_getElem? (i := 65) rfl)
theorem q546 : (Jvm.Cond.privateMethod ({ cls := "SurveyStore", name := "baseRowAt", desc := "(I)LSurveyStore$BaseRow;" } : Jvm.MethodName)) ∈ zTW := zin3 (List.mem_of_getElem? (i := 66) rfl)
theorem q547 : (Jvm.Cond.instanceMethod ({ cls := "SurveyStore", name := "baseRowAt", desc := "(I)LSurveyStore$BaseRow;" } : Jvm.MethodName)) ∈ zTW := zin3 (List.mem_of_getElem? (i := 67) rfl)
theorem q548 : (Jvm.Cond.code ({ cls := "SurveyStore", name := "baseRowAt", desc := "(I)LSurveyStore$BaseRow;" } : Jvm.MethodName) prog_1_method_59_code (2 : Nat) (Option.some (Jvm.ClassFile.FieldType.object "SurveyStore$BaseRow"))) ∈ zTW := zin3 (List.mem_of_getElem? (i := 68) rfl)
theorem q549 : (Jvm.Cond.instantiable "SurveyStore$BaseRow" (1 : Nat)) ∈ zTW := zin3 (List.mem_of_getElem? (i := 69) rfl)
theorem q550 : (Jvm.Cond.methodLinkNest "SurveyStore" (323 : Nat) ({ cls := "SurveyStore$BaseRow", name := "<init>", desc := "()V" } : Jvm.MethodName) "SurveyStore") ∈ zTW := zin3 (List.mem_of_getElem? (i := 70) rfl)
theorem q551 : (Jvm.Cond.instanceMethod ({ cls := "SurveyStore$BaseRow", name := "<init>", desc := "()V" } : Jvm.MethodName)) ∈ zTW := zin3 (List.mem_of_getElem? (i := 71) rfl)
theorem q552 : (Jvm.Cond.code ({ cls := "SurveyStore$BaseRow", name := "<init>", desc := "()V" } : Jvm.MethodName) prog_2_method_1_code (1 : Nat) (Option.none : Option Jvm.ClassFile.FieldType)) ∈ zTW := zin3 (List.mem_of_getElem? (i := 72) rfl)
theorem q553 : (Jvm.Cond.methodLink "SurveyStore$BaseRow" (3 : Nat) ({ cls := "java/lang/Object", name := "<init>", desc := "()V" } : Jvm.MethodName)) ∈ zTW := zin3 (List.mem_of_getElem? (i := 73) rfl)
theorem q554 : (Jvm.Cond.fieldLink "SurveyStore$BaseRow" (9 : Nat) "SurveyStore$BaseRow" "values" "[I") ∈ zTW := zin3 (List.mem_of_getElem? (i := 74) rfl)
theorem q555 : (Jvm.Cond.fieldLink "SurveyStore" (197 : Nat) "SurveyStore$BaseRow" "values" "[I") ∈ zTW := zin3 (List.mem_of_getElem? (i := 75) rfl)
theorem q556 : (Jvm.Cond.laysFinal "SurveyStore$BaseRow" "SurveyStore$BaseRow" "values" "[I") ∈ zTW := zin3 (List.mem_of_getElem? (i := 76) rfl)
theorem q557 : (Jvm.Cond.soleField "SurveyStore$BaseRow" "values") ∈ zTW := zin3 (List.mem_of_getElem? (i := 77) rfl)
theorem q558 : (Jvm.Cond.superclass "SurveyStore$BaseRow" "java/lang/Object") ∈ zTW := zin3 (List.mem_of_getElem? (i := 78) rfl)
theorem q559 : (Jvm.Cond.methodLink "SurveyStore" (311 : Nat) ({ cls := "SurveyStore", name := "joinBase", desc := "(LSurveyStore$BaseRow;III)V" } : Jvm.MethodName)) ∈ zTW := zin3 (List.mem_of_getElem? (i := 79) rfl)
theorem q560 : (Jvm.Cond.privateMethod ({ cls := "SurveyStore", name := "joinBase", desc := "(LSurveyStore$BaseRow;III)V" } : Jvm.MethodName)) ∈ zTW := zin3 (List.mem_of_getElem? (i := 80) rfl)
theorem q561 : (Jvm.Cond.instanceMethod ({ cls := "SurveyStore", name := "joinBase", desc := "(LSurveyStore$BaseRow;III)V" } : Jvm.MethodName)) ∈ zTW := zin3 (List.mem_of_getElem? (i := 81) rfl)
theorem q562 : (Jvm.Cond.code ({ cls := "SurveyStore", name := "joinBase", desc := "(LSurveyStore$BaseRow;III)V" } : Jvm.MethodName) prog_1_method_58_code (6 : Nat) (Option.none : Option Jvm.ClassFile.FieldType)) ∈ zTW := zin3 (List.mem_of_getElem? (i := 82) rfl)
theorem q563 : (Jvm.Cond.methodLink "SurveyStore" (315 : Nat) ({ cls := "SurveyStore$BaseRow", name := "take", desc := "([J)V" } : Jvm.MethodName)) ∈ zTW := zin3 (List.mem_of_getElem? (i := 83) rfl)
theorem q564 : (Jvm.Cond.instanceMethod ({ cls := "SurveyStore$BaseRow", name := "take", desc := "([J)V" } : Jvm.MethodName)) ∈ zTW := zin3 (List.mem_of_getElem? (i := 84) rfl)
theorem q565 : (Jvm.Cond.selects "SurveyStore$BaseRow" ({ cls := "SurveyStore$BaseRow", name := "take", desc := "([J)V" } : Jvm.MethodName) ({ cls := "SurveyStore$BaseRow", name := "take", desc := "([J)V" } : Jvm.MethodName)) ∈ zTW := zin3 (List.mem_of_getElem? (i := 85) rfl)
theorem q566 : (Jvm.Cond.code ({ cls := "SurveyStore$BaseRow", name := "take", desc := "([J)V" } : Jvm.MethodName) prog_2_method_2_code (3 : Nat) (Option.none : Option Jvm.ClassFile.FieldType)) ∈ zTW := zin3 (List.mem_of_getElem? (i := 86) rfl)
theorem q567 : (Jvm.Cond.methodLinkNest "SurveyStore$BaseRow" (15 : Nat) ({ cls := "SurveyStore", name := "valueOf", desc := "(J)I" } : Jvm.MethodName) "SurveyStore") ∈ zTW := zin3 (List.mem_of_getElem? (i := 87) rfl)
theorem q568 : (Jvm.Cond.methodLink "SurveyStore" (319 : Nat) ({ cls := "SurveyStore$BaseRow", name := "mergeWith", desc := "([J[I)V" } : Jvm.MethodName)) ∈ zTW := zin3 (List.mem_of_getElem? (i := 88) rfl)
theorem q569 : (Jvm.Cond.instanceMethod ({ cls := "SurveyStore$BaseRow", name := "mergeWith", desc := "([J[I)V" } : Jvm.MethodName)) ∈ zTW := zin3 (List.mem_of_getElem? (i := 89) rfl)
theorem q570 : (Jvm.Cond.selects "SurveyStore$BaseRow" ({ cls := "SurveyStore$BaseRow", name := "mergeWith", desc := "([J[I)V" } : Jvm.MethodName) ({ cls := "SurveyStore$BaseRow", name := "mergeWith", desc := "([J[I)V" } : Jvm.MethodName)) ∈ zTW := zin3 (List.mem_of_getElem? (i := 90) rfl)
theorem q571 : (Jvm.Cond.code ({ cls := "SurveyStore$BaseRow", name := "mergeWith", desc := "([J[I)V" } : Jvm.MethodName) prog_2_method_3_code (5 : Nat) (Option.none : Option Jvm.ClassFile.FieldType)) ∈ zTW := zin3 (List.mem_of_getElem? (i := 91) rfl)
theorem q572 : (Jvm.Cond.methodLinkNest "SurveyStore$BaseRow" (19 : Nat) ({ cls := "SurveyStore", name := "isConflict", desc := "(III)Z" } : Jvm.MethodName) "SurveyStore") ∈ zTW := zin3 (List.mem_of_getElem? (i := 92) rfl)
theorem q573 : (Jvm.Cond.static ({ cls := "SurveyStore", name := "isConflict", desc := "(III)Z" } : Jvm.MethodName)) ∈ zTW := zin3 (List.mem_of_getElem? (i := 93) rfl)
theorem q574 : (Jvm.Cond.code ({ cls := "SurveyStore", name := "isConflict", desc := "(III)Z" } : Jvm.MethodName) prog_1_method_40_code (3 : Nat) (Option.some Jvm.ClassFile.FieldType.boolean)) ∈ zTW := zin3 (List.mem_of_getElem? (i := 94) rfl)
theorem q575 : (Jvm.Cond.constant "SurveyStore$BaseRow" (23 : Nat) (-2147483648 : Int32)) ∈ zTW := zin3 (List.mem_of_getElem? (i := 95) rfl)
theorem q576 : (Jvm.Cond.methodLink "SurveyStore" (193 : Nat) ({ cls := "SurveyStore$Branch", name := "freshConflicts", desc := "()LSurveyStore$Conflicts;" } : Jvm.MethodName)) ∈ zTW := zin3 (List.mem_of_getElem? (i := 96) rfl)
theorem q577 : (Jvm.Cond.instanceMethod ({ cls := "SurveyStore$Branch", name := "freshConflicts", desc := "()LSurveyStore$Conflicts;" } : Jvm.MethodName)) ∈ zTW := zin3 (List.mem_of_getElem? (i := 97) rfl)
theorem q578 : (Jvm.Cond.selects "SurveyStore$Branch" ({ cls := "SurveyStore$Branch", name := "freshConflicts", desc := "()LSurveyStore$Conflicts;" } : Jvm.MethodName) ({ cls := "SurveyStore$Branch", name := "freshConflicts", desc := "()LSurveyStore$Conflicts;" } : Jvm.MethodName)) ∈ zTW := zin3 (List.mem_of_getElem? (i := 98) rfl)
theorem q579 : (Jvm.Cond.code ({ cls := "SurveyStore$Branch", name := "freshConflicts", desc := "()LSurveyStore$Conflicts;" } : Jvm.MethodName) prog_4_method_4_code (1 : Nat) (Option.some (Jvm.ClassFile.FieldType.object "SurveyStore$Conflicts"))) ∈ zTW := zin3 (List.mem_of_getElem? (i := 99) rfl)
theorem q580 : (Jvm.Cond.classLink "SurveyStore$Branch" (41 : Nat) "SurveyStore$Conflicts") ∈ zTW := zin3 (List.mem_of_getElem? (i := 100) rfl)
theorem q581 : (Jvm.Cond.instantiable "SurveyStore$Conflicts" (7 : Nat)) ∈ zTW := zin3 (List.mem_of_getElem? (i := 101) rfl)
theorem q582 : (Jvm.Cond.methodLinkNest "SurveyStore$Branch" (45 : Nat) ({ cls := "SurveyStore$Conflicts", name := "<init>", desc := "()V" } : Jvm.MethodName) "SurveyStore") ∈ zTW := zin3 (List.mem_of_getElem? (i := 102) rfl)
theorem q583 : (Jvm.Cond.instanceMethod ({ cls := "SurveyStore$Conflicts", name := "<init>", desc := "()V" } : Jvm.MethodName)) ∈ zTW := zin3 (List.mem_of_getElem? (i := 103) rfl)
theorem q584 : (Jvm.Cond.code ({ cls := "SurveyStore$Conflicts", name := "<init>", desc := "()V" } : Jvm.MethodName) prog_6_method_1_code (1 : Nat) (Option.none : Option Jvm.ClassFile.FieldType)) ∈ zTW := zin3 (List.mem_of_getElem? (i := 104) rfl)
theorem q585 : (Jvm.Cond.methodLink "SurveyStore$Conflicts" (3 : Nat) ({ cls := "java/lang/Object", name := "<init>", desc := "()V" } : Jvm.MethodName)) ∈ zTW := zin3 (List.mem_of_getElem? (i := 105) rfl)
theorem q586 : (Jvm.Cond.fieldLink "SurveyStore$Conflicts" (9 : Nat) "SurveyStore$Conflicts" "indices" "[I") ∈ zTW := zin3 (List.mem_of_getElem? (i := 106) rfl)
theorem q587 : (Jvm.Cond.fieldLink "SurveyStore" (220 : Nat) "SurveyStore$Conflicts" "indices" "[I") ∈ zTW := zin3 (List.mem_of_getElem? (i := 107) rfl)
theorem q588 : (Jvm.Cond.fieldLink "SurveyStore$Conflicts" (15 : Nat) "SurveyStore$Conflicts" "mine" "[I") ∈ zTW := zin3 (List.mem_of_getElem? (i := 108) rfl)
theorem q589 : (Jvm.Cond.fieldLink "SurveyStore$Conflicts" (18 : Nat) "SurveyStore$Conflicts" "others" "[I") ∈ zTW := zin3 (List.mem_of_getElem? (i := 109) rfl)
theorem q590 : (Jvm.Cond.fieldLink "SurveyStore$Conflicts" (21 : Nat) "SurveyStore$Conflicts" "bases" "[I") ∈ zTW := zin3 (List.mem_of_getElem? (i := 110) rfl)
theorem q591 : (Jvm.Cond.fieldLink "SurveyStore$Conflicts" (24 : Nat) "SurveyStore$Conflicts" "settled" "[Z") ∈ zTW := zin3 (List.mem_of_getElem? (i := 111) rfl)
theorem q592 : (Jvm.Cond.fieldLink "SurveyStore$Conflicts" (28 : Nat) "SurveyStore$Conflicts" "count" "I") ∈ zTW := zin3 (List.mem_of_getElem? (i := 112) rfl)
theorem q593 : (Jvm.Cond.fieldLink "SurveyStore" (204 : Nat) "SurveyStore$Conflicts" "count" "I") ∈ zTW := zin3 (List.mem_of_getElem? (i := 113) rfl)
theorem q594 : (Jvm.Cond.fieldLink "SurveyStore$Conflicts" (32 : Nat) "SurveyStore$Conflicts" "unsettled" "I") ∈ zTW := zin3 (List.mem_of_getElem? (i := 114) rfl)
theorem q595 : (Jvm.Cond.fieldLink "SurveyStore$Branch" (46 : Nat) "SurveyStore$Conflicts" "unsettled" "I") ∈ zTW := zin3 (List.mem_of_getElem? (i := 115) rfl)
theorem q596 : (Jvm.Cond.fieldLink "SurveyStore" (226 : Nat) "SurveyStore$Conflicts" "unsettled" "I") ∈ zTW := zin3 (List.mem_of_getElem? (i := 116) rfl)
theorem q597 : (Jvm.Cond.laysFinal "SurveyStore$Conflicts" "SurveyStore$Conflicts" "indices" "[I") ∈ zTW := zin3 (List.mem_of_getElem? (i := 117) rfl)
theorem q598 : (Jvm.Cond.soleField "SurveyStore$Conflicts" "indices") ∈ zTW := zin3 (List.mem_of_getElem? (i := 118) rfl)
theorem q599 : (Jvm.Cond.laysFinal "SurveyStore$Conflicts" "SurveyStore$Conflicts" "mine" "[I") ∈ zTW := zin3 (List.mem_of_getElem? (i := 119) rfl)
theorem q600 : (Jvm.Cond.soleField "SurveyStore$Conflicts" "mine") ∈ zTW := zin3 (List.mem_of_getElem? (i := 120) rfl)
theorem q601 : (Jvm.Cond.laysFinal "SurveyStore$Conflicts" "SurveyStore$Conflicts" "others" "[I") ∈ zTW := zin3 (List.mem_of_getElem? (i := 121) rfl)
theorem q602 : (Jvm.Cond.soleField "SurveyStore$Conflicts" "others") ∈ zTW := zin3 (List.mem_of_getElem? (i := 122) rfl)
theorem q603 : (Jvm.Cond.laysFinal "SurveyStore$Conflicts" "SurveyStore$Conflicts" "bases" "[I") ∈ zTW := zin3 (List.mem_of_getElem? (i := 123) rfl)
theorem q604 : (Jvm.Cond.soleField "SurveyStore$Conflicts" "bases") ∈ zTW := zin3 (List.mem_of_getElem? (i := 124) rfl)
theorem q605 : (Jvm.Cond.laysFinal "SurveyStore$Conflicts" "SurveyStore$Conflicts" "settled" "[Z") ∈ zTW := zin3 (List.mem_of_getElem? (i := 125) rfl)
theorem q606 : (Jvm.Cond.soleField "SurveyStore$Conflicts" "settled") ∈ zTW := zin3 (List.mem_of_getElem? (i := 126) rfl)
theorem q607 : (Jvm.Cond.lays "SurveyStore$Conflicts" "SurveyStore$Conflicts" "count" "I") ∈ zTW := zin3 (List.mem_of_getElem? (i := 127) rfl)
theorem q608 : (Jvm.Cond.soleField "SurveyStore$Conflicts" "count") ∈ zTW := zin3 (List.mem_of_getElem? (i := 128) rfl)
theorem q609 : (Jvm.Cond.lays "SurveyStore$Conflicts" "SurveyStore$Conflicts" "unsettled" "I") ∈ zTW := zin3 (List.mem_of_getElem? (i := 129) rfl)
theorem q610 : (Jvm.Cond.soleField "SurveyStore$Conflicts" "unsettled") ∈ zTW := zin3 (List.mem_of_getElem? (i := 130) rfl)
theorem q611 : (Jvm.Cond.superclass "SurveyStore$Conflicts" "java/lang/Object") ∈ zTW := zin3 (List.mem_of_getElem? (i := 131) rfl)
theorem q612 : (Jvm.Cond.arrayClass Jvm.ClassFile.FieldType.boolean) ∈ zTW := zin3 (List.mem_of_getElem? (i := 132) rfl)
theorem q613 : (Jvm.Cond.methodLink "SurveyStore" (200 : Nat) ({ cls := "SurveyStore", name := "mergeCells", desc := "([J[J[ILSurveyStore$Conflicts;)V" } : Jvm.MethodName)) ∈ zTW := zin3 (List.mem_of_getElem? (i := 133) rfl)
theorem q614 : (Jvm.Cond.privateMethod ({ cls := "SurveyStore", name := "mergeCells", desc := "([J[J[ILSurveyStore$Conflicts;)V" } : Jvm.MethodName)) ∈ zTW := zin3 (List.mem_of_getElem? (i := 134) rfl)
theorem q615 : (Jvm.Cond.instanceMethod ({ cls := "SurveyStore", name := "mergeCells", desc := "([J[J[ILSurveyStore$Conflicts;)V" } : Jvm.MethodName)) ∈ zTW := zin3 (List.mem_of_getElem? (i := 135) rfl)
theorem q616 : (Jvm.Cond.code ({ cls := "SurveyStore", name := "mergeCells", desc := "([J[J[ILSurveyStore$Conflicts;)V" } : Jvm.MethodName) prog_1_method_60_code (9 : Nat) (Option.none : Option Jvm.ClassFile.FieldType)) ∈ zTW := zin3 (List.mem_of_getElem? (i := 136) rfl)
theorem q617 : (Jvm.Cond.methodLink "SurveyStore" (324 : Nat) ({ cls := "SurveyStore", name := "isConflict", desc := "(III)Z" } : Jvm.MethodName)) ∈ zTW := zin3 (List.mem_of_getElem? (i := 137) rfl)
theorem q618 : (Jvm.Cond.methodLink "SurveyStore" (327 : Nat) ({ cls := "SurveyStore$Conflicts", name := "add", desc := "(IIII)V" } : Jvm.MethodName)) ∈ zTW := zin3 (List.mem_of_getElem? (i := 138) rfl)
theorem q619 : (Jvm.Cond.instanceMethod ({ cls := "SurveyStore$Conflicts", name := "add", desc := "(IIII)V" } : Jvm.MethodName)) ∈ zTW := zin3 (List.mem_of_getElem? (i := 139) rfl)
theorem q620 : (Jvm.Cond.selects "SurveyStore$Conflicts" ({ cls := "SurveyStore$Conflicts", name := "add", desc := "(IIII)V" } : Jvm.MethodName) ({ cls := "SurveyStore$Conflicts", name := "add", desc := "(IIII)V" } : Jvm.MethodName)) ∈ zTW := zin3 (List.mem_of_getElem? (i := 140) rfl)
theorem q621 : (Jvm.Cond.code ({ cls := "SurveyStore$Conflicts", name := "add", desc := "(IIII)V" } : Jvm.MethodName) prog_6_method_3_code (5 : Nat) (Option.none : Option Jvm.ClassFile.FieldType)) ∈ zTW := zin3 (List.mem_of_getElem? (i := 141) rfl)
theorem q622 : (Jvm.Cond.methodLink "SurveyStore" (331 : Nat) ({ cls := "SurveyStore", name := "otherWins", desc := "(IJJ)Z" } : Jvm.MethodName)) ∈ zTW := zin3 (List.mem_of_getElem? (i := 142) rfl)
theorem q623 : (Jvm.Cond.static ({ cls := "SurveyStore", name := "otherWins", desc := "(IJJ)Z" } : Jvm.MethodName)) ∈ zTW := zin3 (List.mem_of_getElem? (i := 143) rfl)
theorem q624 : (Jvm.Cond.code ({ cls := "SurveyStore", name := "otherWins", desc := "(IJJ)Z" } : Jvm.MethodName) prog_1_method_61_code (5 : Nat) (Option.some Jvm.ClassFile.FieldType.boolean)) ∈ zTW := zin3 (List.mem_of_getElem? (i := 144) rfl)
theorem q625 : (Jvm.Cond.methodLink "SurveyStoreLaw" (118 : Nat) ({ cls := "SurveyStoreLaw", name := "settle", desc := "(LSurveyStore;III[J)I" } : Jvm.MethodName)) ∈ zTW := zin3 (List.mem_of_getElem? (i := 145) rfl)
theorem q626 : (Jvm.Cond.static ({ cls := "SurveyStoreLaw", name := "settle", desc := "(LSurveyStore;III[J)I" } : Jvm.MethodName)) ∈ zTW := zin3 (List.mem_of_getElem? (i := 146) rfl)
theorem q627 : (Jvm.Cond.codeWith ({ cls := "SurveyStoreLaw", name := "settle", desc := "(LSurveyStore;III[J)I" } : Jvm.MethodName) method_11_code (6 : Nat) (Option.some Jvm.ClassFile.FieldType.int) [((0 : Nat), (12 : Nat), (15 : Nat), (13 : Nat))]) ∈ zTW := zin3 (List.mem_of_getElem? (i := 147) rfl)
theorem q628 : (Jvm.Cond.methodLink "SurveyStoreLaw" (43 : Nat) ({ cls := "SurveyStore", name := "settle", desc := "(III)I" } : Jvm.MethodName)) ∈ zTW := zin3 (List.mem_of_getElem? (i := 148) rfl)
theorem q629 : (Jvm.Cond.instanceMethod ({ cls := "SurveyStore", name := "settle", desc := "(III)I" } : Jvm.MethodName)) ∈ zTW := zin3 (List.mem_of_getElem? (i := 149) rfl)
theorem q630 : (Jvm.Cond.selects "SurveyStore" ({ cls := "SurveyStore", name := "settle", desc := "(III)I" } : Jvm.MethodName) ({ cls := "SurveyStore", name := "settle", desc := "(III)I" } : Jvm.MethodName)) ∈ zTW := zin3 (List.mem_of_getElem? (i := 150) rfl)
theorem q631 : (Jvm.Cond.code ({ cls := "SurveyStore", name := "settle", desc := "(III)I" } : Jvm.MethodName) prog_1_method_16_code (5 : Nat) (Option.some Jvm.ClassFile.FieldType.int)) ∈ zTW := zin3 (List.mem_of_getElem? (i := 151) rfl)
theorem q632 : (Jvm.Cond.methodLink "SurveyStore" (217 : Nat) ({ cls := "SurveyStore$Conflicts", name := "has", desc := "(I)Z" } : Jvm.MethodName)) ∈ zTW := zin3 (List.mem_of_getElem? (i := 152) rfl)
theorem q633 : (Jvm.Cond.methodLink "SurveyStore" (223 : Nat) ({ cls := "SurveyStore$Conflicts", name := "markSettled", desc := "(I)V" } : Jvm.MethodName)) ∈ zTW := zin3 (List.mem_of_getElem? (i := 153) rfl)
theorem q634 : (Jvm.Cond.instanceMethod ({ cls := "SurveyStore$Conflicts", name := "markSettled", desc := "(I)V" } : Jvm.MethodName)) ∈ zTW := zin3 (List.mem_of_getElem? (i := 154) rfl)
theorem q635 : (Jvm.Cond.selects "SurveyStore$Conflicts" ({ cls := "SurveyStore$Conflicts", name := "markSettled", desc := "(I)V" } : Jvm.MethodName) ({ cls := "SurveyStore$Conflicts", name := "markSettled", desc := "(I)V" } : Jvm.MethodName)) ∈ zTW := zin3 (List.mem_of_getElem? (i := 155) rfl)
theorem q636 : (Jvm.Cond.code ({ cls := "SurveyStore$Conflicts", name := "markSettled", desc := "(I)V" } : Jvm.MethodName) prog_6_method_5_code (2 : Nat) (Option.none : Option Jvm.ClassFile.FieldType)) ∈ zTW := zin3 (List.mem_of_getElem? (i := 156) rfl)
theorem q637 : (Jvm.Cond.methodLink "SurveyStoreLaw" (132 : Nat) ({ cls := "SurveyStoreLaw", name := "total", desc := "(LSurveyStore;III[J)I" } : Jvm.MethodName)) ∈ zTW := zin3 (List.mem_of_getElem? (i := 157) rfl)
theorem q638 : (Jvm.Cond.static ({ cls := "SurveyStoreLaw", name := "total", desc := "(LSurveyStore;III[J)I" } : Jvm.MethodName)) ∈ zTW := zin3 (List.mem_of_getElem? (i := 158) rfl)
theorem q639 : (Jvm.Cond.codeWith ({ cls := "SurveyStoreLaw", name := "total", desc := "(LSurveyStore;III[J)I" } : Jvm.MethodName) method_12_code (6 : Nat) (Option.some Jvm.ClassFile.FieldType.int) [((0 : Nat), (12 : Nat), (15 : Nat), (13 : Nat))]) ∈ zTW := zin3 (List.mem_of_getElem? (i := 159) rfl)
theorem q640 : (Jvm.Cond.methodLink "SurveyStoreLaw" (47 : Nat) ({ cls := "SurveyStore", name := "total", desc := "(III)I" } : Jvm.MethodName)) ∈ zTW := zin3 (List.mem_of_getElem? (i := 160) rfl)
theorem q641 : (Jvm.Cond.instanceMethod ({ cls := "SurveyStore", name := "total", desc := "(III)I" } : Jvm.MethodName)) ∈ zTW := zin3 (List.mem_of_getElem? (i := 161) rfl)
theorem q642 : (Jvm.Cond.selects "SurveyStore" ({ cls := "SurveyStore", name := "total", desc := "(III)I" } : Jvm.MethodName) ({ cls := "SurveyStore", name := "total", desc := "(III)I" } : Jvm.MethodName)) ∈ zTW := zin3 (List.mem_of_getElem? (i := 162) rfl)
theorem q643 : (Jvm.Cond.code ({ cls := "SurveyStore", name := "total", desc := "(III)I" } : Jvm.MethodName) prog_1_method_19_code (12 : Nat) (Option.some Jvm.ClassFile.FieldType.int)) ∈ zTW := zin3 (List.mem_of_getElem? (i := 163) rfl)
theorem q644 : (Jvm.Cond.classLink "SurveyStoreLaw" (51 : Nat) "SurveyStoreModel") ∈ zTW := zin3 (List.mem_of_getElem? (i := 164) rfl)
theorem q645 : (Jvm.Cond.instantiable "SurveyStoreModel" (28 : Nat)) ∈ zTW := zin3 (List.mem_of_getElem? (i := 165) rfl)
theorem q646 : (Jvm.Cond.methodLink "SurveyStoreLaw" (53 : Nat) ({ cls := "SurveyStoreModel", name := "<init>", desc := "()V" } : Jvm.MethodName)) ∈ zTW := zin3 (List.mem_of_getElem? (i := 166) rfl)
theorem q647 : (Jvm.Cond.instanceMethod ({ cls := "SurveyStoreModel", name := "<init>", desc := "()V" } : Jvm.MethodName)) ∈ zTW := zin3 (List.mem_of_getElem? (i := 167) rfl)
theorem q648 : (Jvm.Cond.code ({ cls := "SurveyStoreModel", name := "<init>", desc := "()V" } : Jvm.MethodName) prog_8_method_1_code (2 : Nat) (Option.none : Option Jvm.ClassFile.FieldType)) ∈ zTW := zin3 (List.mem_of_getElem? (i := 168) rfl)
theorem q649 : (Jvm.Cond.methodLink "SurveyStoreModel" (1 : Nat) ({ cls := "java/lang/Object", name := "<init>", desc := "()V" } : Jvm.MethodName)) ∈ zTW := zin3 (List.mem_of_getElem? (i := 169) rfl)
theorem q650 : (Jvm.Cond.constant "SurveyStoreModel" (7 : Nat) (114688 : Int32)) ∈ zTW := zin3 (List.mem_of_getElem? (i := 170) rfl)
theorem q651 : (Jvm.Cond.constant "SurveyStoreModel" (82 : Nat) (106496 : Int32)) ∈ zTW := zin3 (List.mem_of_getElem? (i := 171) rfl)
theorem q652 : (Jvm.Cond.constant "SurveyStoreModel" (89 : Nat) (-2147483648 : Int32)) ∈ zTW := zin3 (List.mem_of_getElem? (i := 172) rfl)
theorem q653 : (Jvm.Cond.fieldLink "SurveyStoreModel" (90 : Nat) "SurveyStoreModel" "code" "I") ∈ zTW := zin3 (List.mem_of_getElem? (i := 173) rfl)
theorem q654 : (Jvm.Cond.fieldLink "SurveyStoreModel" (8 : Nat) "SurveyStoreModel" "value" "[I") ∈ zTW := zin3 (List.mem_of_getElem? (i := 174) rfl)
theorem q655 : (Jvm.Cond.fieldLink "SurveyStoreModel" (14 : Nat) "SurveyStoreModel" "origin" "[I") ∈ zTW := zin3 (List.mem_of_getElem? (i := 175) rfl)
theorem q656 : (Jvm.Cond.fieldLink "SurveyStoreModel" (17 : Nat) "SurveyStoreModel" "kinds" "[I") ∈ zTW := zin3 (List.mem_of_getElem? (i := 176) rfl)
theorem q657 : (Jvm.Cond.fieldLink "SurveyStoreModel" (20 : Nat) "SurveyStoreModel" "parent" "[I") ∈ zTW := zin3 (List.mem_of_getElem? (i := 177) rfl)
theorem q658 : (Jvm.Cond.fieldLink "SurveyStoreModel" (23 : Nat) "SurveyStoreModel" "other" "[I") ∈ zTW := zin3 (List.mem_of_getElem? (i := 178) rfl)
theorem q659 : (Jvm.Cond.fieldLink "SurveyStoreModel" (26 : Nat) "SurveyStoreModel" "commits" "I") ∈ zTW := zin3 (List.mem_of_getElem? (i := 179) rfl)
theorem q660 : (Jvm.Cond.fieldLink "SurveyStoreModel" (30 : Nat) "SurveyStoreModel" "there" "[Z") ∈ zTW := zin3 (List.mem_of_getElem? (i := 180) rfl)
theorem q661 : (Jvm.Cond.fieldLink "SurveyStoreModel" (34 : Nat) "SurveyStoreModel" "head" "[I") ∈ zTW := zin3 (List.mem_of_getElem? (i := 181) rfl)
theorem q662 : (Jvm.Cond.fieldLink "SurveyStoreModel" (37 : Nat) "SurveyStoreModel" "merging" "[I") ∈ zTW := zin3 (List.mem_of_getElem? (i := 182) rfl)
theorem q663 : (Jvm.Cond.fieldLink "SurveyStoreModel" (40 : Nat) "SurveyStoreModel" "conflictAt" "[I") ∈ zTW := zin3 (List.mem_of_getElem? (i := 183) rfl)
theorem q664 : (Jvm.Cond.fieldLink "SurveyStoreModel" (43 : Nat) "SurveyStoreModel" "conflictMine" "[I") ∈ zTW := zin3 (List.mem_of_getElem? (i := 184) rfl)
theorem q665 : (Jvm.Cond.fieldLink "SurveyStoreModel" (46 : Nat) "SurveyStoreModel" "conflictOther" "[I") ∈ zTW := zin3 (List.mem_of_getElem? (i := 185) rfl)
theorem q666 : (Jvm.Cond.fieldLink "SurveyStoreModel" (49 : Nat) "SurveyStoreModel" "conflictBase" "[I") ∈ zTW := zin3 (List.mem_of_getElem? (i := 186) rfl)
theorem q667 : (Jvm.Cond.fieldLink "SurveyStoreModel" (52 : Nat) "SurveyStoreModel" "conflicts" "[I") ∈ zTW := zin3 (List.mem_of_getElem? (i := 187) rfl)
theorem q668 : (Jvm.Cond.fieldLink "SurveyStoreModel" (55 : Nat) "SurveyStoreModel" "settled" "[Z") ∈ zTW := zin3 (List.mem_of_getElem? (i := 188) rfl)
theorem q669 : (Jvm.Cond.fieldLink "SurveyStoreModel" (109 : Nat) "SurveyStoreModel" "left" "I") ∈ zTW := zin3 (List.mem_of_getElem? (i := 189) rfl)
theorem q670 : (Jvm.Cond.fieldLink "SurveyStoreModel" (112 : Nat) "SurveyStoreModel" "top" "I") ∈ zTW := zin3 (List.mem_of_getElem? (i := 190) rfl)
theorem q671 : (Jvm.Cond.fieldLink "SurveyStoreModel" (58 : Nat) "SurveyStoreModel" "wide" "I") ∈ zTW := zin3 (List.mem_of_getElem? (i := 191) rfl)
theorem q672 : (Jvm.Cond.fieldLink "SurveyStoreModel" (61 : Nat) "SurveyStoreModel" "high" "I") ∈ zTW := zin3 (List.mem_of_getElem? (i := 192) rfl)
theorem q673 : (Jvm.Cond.fieldLink "SurveyStoreModel" (64 : Nat) "SurveyStoreModel" "cornerX" "[I") ∈ zTW := zin3 (List.mem_of_getElem? (i := 193) rfl)
theorem q674 : (Jvm.Cond.fieldLink "SurveyStoreModel" (67 : Nat) "SurveyStoreModel" "cornerY" "[I") ∈ zTW := zin3 (List.mem_of_getElem? (i := 194) rfl)
theorem q675 : (Jvm.Cond.fieldLink "SurveyStoreModel" (70 : Nat) "SurveyStoreModel" "from" "[I") ∈ zTW := zin3 (List.mem_of_getElem? (i := 195) rfl)
theorem q676 : (Jvm.Cond.fieldLink "SurveyStoreModel" (73 : Nat) "SurveyStoreModel" "to" "[I") ∈ zTW := zin3 (List.mem_of_getElem? (i := 196) rfl)
theorem q677 : (Jvm.Cond.fieldLink "SurveyStoreModel" (76 : Nat) "SurveyStoreModel" "wanted" "[I") ∈ zTW := zin3 (List.mem_of_getElem? (i := 197) rfl)
theorem q678 : (Jvm.Cond.fieldLink "SurveyStoreModel" (79 : Nat) "SurveyStoreModel" "done" "[I") ∈ zTW := zin3 (List.mem_of_getElem? (i := 198) rfl)
theorem q679 : (Jvm.Cond.fieldLink "SurveyStoreModel" (83 : Nat) "SurveyStoreModel" "rows" "[I") ∈ zTW := zin3 (List.mem_of_getElem? (i := 199) rfl)
theorem q680 : (Jvm.Cond.fieldLink "SurveyStoreModel" (86 : Nat) "SurveyStoreModel" "foundAt" "[I") ∈ zTW := zin3 (List.mem_of_getElem? (i := 200) rfl)
theorem q681 : (Jvm.Cond.lays "SurveyStoreModel" "SurveyStoreModel" "code" "I") ∈ zTW := zin3 (List.mem_of_getElem? (i := 201) rfl)
theorem q682 : (Jvm.Cond.soleField "SurveyStoreModel" "code") ∈ zTW := zin3 (List.mem_of_getElem? (i := 202) rfl)
theorem q683 : (Jvm.Cond.laysFinal "SurveyStoreModel" "SurveyStoreModel" "value" "[I") ∈ zTW := zin3 (List.mem_of_getElem? (i := 203) rfl)
theorem q684 : (Jvm.Cond.soleField "SurveyStoreModel" "value") ∈ zTW := zin3 (List.mem_of_getElem? (i := 204) rfl)
theorem q685 : (Jvm.Cond.laysFinal "SurveyStoreModel" "SurveyStoreModel" "origin" "[I") ∈ zTW := zin3 (List.mem_of_getElem? (i := 205) rfl)
theorem q686 : (Jvm.Cond.soleField "SurveyStoreModel" "origin") ∈ zTW := zin3 (List.mem_of_getElem? (i := 206) rfl)
theorem q687 : (Jvm.Cond.laysFinal "SurveyStoreModel" "SurveyStoreModel" "kinds" "[I") ∈ zTW := zin3 (List.mem_of_getElem? (i := 207) rfl)
theorem q688 : (Jvm.Cond.soleField "SurveyStoreModel" "kinds") ∈ zTW := zin3 (List.mem_of_getElem? (i := 208) rfl)
theorem q689 : (Jvm.Cond.laysFinal "SurveyStoreModel" "SurveyStoreModel" "parent" "[I") ∈ zTW := zin3 (List.mem_of_getElem? (i := 209) rfl)
theorem q690 : (Jvm.Cond.soleField "SurveyStoreModel" "parent") ∈ zTW := zin3 (List.mem_of_getElem? (i := 210) rfl)
theorem q691 : (Jvm.Cond.laysFinal "SurveyStoreModel" "SurveyStoreModel" "other" "[I") ∈ zTW := zin3 (List.mem_of_getElem? (i := 211) rfl)
theorem q692 : (Jvm.Cond.soleField "SurveyStoreModel" "other") ∈ zTW := zin3 (List.mem_of_getElem? (i := 212) rfl)
theorem q693 : (Jvm.Cond.lays "SurveyStoreModel" "SurveyStoreModel" "commits" "I") ∈ zTW := zin3 (List.mem_of_getElem? (i := 213) rfl)
theorem q694 : (Jvm.Cond.soleField "SurveyStoreModel" "commits") ∈ zTW := zin3 (List.mem_of_getElem? (i := 214) rfl)
theorem q695 : (Jvm.Cond.laysFinal "SurveyStoreModel" "SurveyStoreModel" "there" "[Z") ∈ zTW := zin3 (List.mem_of_getElem? (i := 215) rfl)
theorem q696 : (Jvm.Cond.soleField "SurveyStoreModel" "there") ∈ zTW := zin3 (List.mem_of_getElem? (i := 216) rfl)
theorem q697 : (Jvm.Cond.laysFinal "SurveyStoreModel" "SurveyStoreModel" "head" "[I") ∈ zTW := zin3 (List.mem_of_getElem? (i := 217) rfl)
theorem q698 : (Jvm.Cond.soleField "SurveyStoreModel" "head") ∈ zTW := zin3 (List.mem_of_getElem? (i := 218) rfl)
theorem q699 : (Jvm.Cond.laysFinal "SurveyStoreModel" "SurveyStoreModel" "merging" "[I") ∈ zTW := zin3 (List.mem_of_getElem? (i := 219) rfl)
theorem q700 : (Jvm.Cond.soleField "SurveyStoreModel" "merging") ∈ zTW := zin3 (List.mem_of_getElem? (i := 220) rfl)
theorem q701 : (Jvm.Cond.laysFinal "SurveyStoreModel" "SurveyStoreModel" "conflictAt" "[I") ∈ zTW := zin3 (List.mem_of_getElem? (i := 221) rfl)
theorem q702 : (Jvm.Cond.soleField "SurveyStoreModel" "conflictAt") ∈ zTW := zin3 (List.mem_of_getElem? (i := 222) rfl)
theorem q703 : (Jvm.Cond.laysFinal "SurveyStoreModel" "SurveyStoreModel" "conflictMine" "[I") ∈ zTW := zin3 (List.mem_of_getElem? (i := 223) rfl)
theorem q704 : (Jvm.Cond.soleField "SurveyStoreModel" "conflictMine") ∈ zTW := zin3 (List.mem_of_getElem? (i := 224) rfl)
theorem q705 : (Jvm.Cond.laysFinal "SurveyStoreModel" "SurveyStoreModel" "conflictOther" "[I") ∈ zTW := zin3 (List.mem_of_getElem? (i := 225) rfl)
theorem q706 : (Jvm.Cond.soleField "SurveyStoreModel" "conflictOther") ∈ zTW := zin3 (List.mem_of_getElem? (i := 226) rfl)
theorem q707 : (Jvm.Cond.laysFinal "SurveyStoreModel" "SurveyStoreModel" "conflictBase" "[I") ∈ zTW := zin3 (List.mem_of_getElem? (i := 227) rfl)
theorem q708 : (Jvm.Cond.soleField "SurveyStoreModel" "conflictBase") ∈ zTW := zin3 (List.mem_of_getElem? (i := 228) rfl)
theorem q709 : (Jvm.Cond.laysFinal "SurveyStoreModel" "SurveyStoreModel" "conflicts" "[I") ∈ zTW := zin3 (List.mem_of_getElem? (i := 229) rfl)
theorem q710 : (Jvm.Cond.soleField "SurveyStoreModel" "conflicts") ∈ zTW := zin3 (List.mem_of_getElem? (i := 230) rfl)
theorem q711 : (Jvm.Cond.laysFinal "SurveyStoreModel" "SurveyStoreModel" "settled" "[Z") ∈ zTW := zin3 (List.mem_of_getElem? (i := 231) rfl)
theorem q712 : (Jvm.Cond.soleField "SurveyStoreModel" "settled") ∈ zTW := zin3 (List.mem_of_getElem? (i := 232) rfl)
theorem q713 : (Jvm.Cond.lays "SurveyStoreModel" "SurveyStoreModel" "left" "I") ∈ zTW := zin3 (List.mem_of_getElem? (i := 233) rfl)
theorem q714 : (Jvm.Cond.soleField "SurveyStoreModel" "left") ∈ zTW := zin3 (List.mem_of_getElem? (i := 234) rfl)
theorem q715 : (Jvm.Cond.lays "SurveyStoreModel" "SurveyStoreModel" "top" "I") ∈ zTW := zin3 (List.mem_of_getElem? (i := 235) rfl)
theorem q716 : (Jvm.Cond.soleField "SurveyStoreModel" "top") ∈ zTW := zin3 (List.mem_of_getElem? (i := 236) rfl)
theorem q717 : (Jvm.Cond.lays "SurveyStoreModel" "SurveyStoreModel" "wide" "I") ∈ zTW := zin3 (List.mem_of_getElem? (i := 237) rfl)
theorem q718 : (Jvm.Cond.soleField "SurveyStoreModel" "wide") ∈ zTW := zin3 (List.mem_of_getElem? (i := 238) rfl)
theorem q719 : (Jvm.Cond.lays "SurveyStoreModel" "SurveyStoreModel" "high" "I") ∈ zTW := zin3 (List.mem_of_getElem? (i := 239) rfl)
theorem q720 : (Jvm.Cond.soleField "SurveyStoreModel" "high") ∈ zTW := zin4 (List.mem_of_getElem? (i := 0) rfl)
theorem q721 : (Jvm.Cond.laysFinal "SurveyStoreModel" "SurveyStoreModel" "cornerX" "[I") ∈ zTW := zin4 (List.mem_of_getElem? (i := 1) rfl)
theorem q722 : (Jvm.Cond.soleField "SurveyStoreModel" "cornerX") ∈ zTW := zin4 (List.mem_of_getElem? (i := 2) rfl)
theorem q723 : (Jvm.Cond.laysFinal "SurveyStoreModel" "SurveyStoreModel" "cornerY" "[I") ∈ zTW := zin4 (List.mem_of_getElem? (i := 3) rfl)
theorem q724 : (Jvm.Cond.soleField "SurveyStoreModel" "cornerY") ∈ zTW := zin4 (List.mem_of_getElem? (i := 4) rfl)
theorem q725 : (Jvm.Cond.laysFinal "SurveyStoreModel" "SurveyStoreModel" "from" "[I") ∈ zTW := zin4 (List.mem_of_getElem? (i := 5) rfl)
theorem q726 : (Jvm.Cond.soleField "SurveyStoreModel" "from") ∈ zTW := zin4 (List.mem_of_getElem? (i := 6) rfl)
theorem q727 : (Jvm.Cond.laysFinal "SurveyStoreModel" "SurveyStoreModel" "to" "[I") ∈ zTW := zin4 (List.mem_of_getElem? (i := 7) rfl)
theorem q728 : (Jvm.Cond.soleField "SurveyStoreModel" "to") ∈ zTW := zin4 (List.mem_of_getElem? (i := 8) rfl)
theorem q729 : (Jvm.Cond.laysFinal "SurveyStoreModel" "SurveyStoreModel" "wanted" "[I") ∈ zTW := zin4 (List.mem_of_getElem? (i := 9) rfl)
theorem q730 : (Jvm.Cond.soleField "SurveyStoreModel" "wanted") ∈ zTW := zin4 (List.mem_of_getElem? (i := 10) rfl)
theorem q731 : (Jvm.Cond.laysFinal "SurveyStoreModel" "SurveyStoreModel" "done" "[I") ∈ zTW := zin4 (List.mem_of_getElem? (i := 11) rfl)
theorem q732 : (Jvm.Cond.soleField "SurveyStoreModel" "done") ∈ zTW := zin4 (List.mem_of_getElem? (i := 12) rfl)
theorem q733 : (Jvm.Cond.laysFinal "SurveyStoreModel" "SurveyStoreModel" "rows" "[I") ∈ zTW := zin4 (List.mem_of_getElem? (i := 13) rfl)
theorem q734 : (Jvm.Cond.soleField "SurveyStoreModel" "rows") ∈ zTW := zin4 (List.mem_of_getElem? (i := 14) rfl)
theorem q735 : (Jvm.Cond.laysFinal "SurveyStoreModel" "SurveyStoreModel" "foundAt" "[I") ∈ zTW := zin4 (List.mem_of_getElem? (i := 15) rfl)
theorem q736 : (Jvm.Cond.soleField "SurveyStoreModel" "foundAt") ∈ zTW := zin4 (List.mem_of_getElem? (i := 16) rfl)
theorem q737 : (Jvm.Cond.superclass "SurveyStoreModel" "java/lang/Object") ∈ zTW := zin4 (List.mem_of_getElem? (i := 17) rfl)
theorem q738 : (Jvm.Cond.methodLink "SurveyStoreLaw" (65 : Nat) ({ cls := "SurveyStoreModel", name := "thrown", desc := "()I" } : Jvm.MethodName)) ∈ zTW := zin4 (List.mem_of_getElem? (i := 18) rfl)
theorem q739 : (Jvm.Cond.instanceMethod ({ cls := "SurveyStoreModel", name := "thrown", desc := "()I" } : Jvm.MethodName)) ∈ zTW := zin4 (List.mem_of_getElem? (i := 19) rfl)
theorem q740 : (Jvm.Cond.selects "SurveyStoreModel" ({ cls := "SurveyStoreModel", name := "thrown", desc := "()I" } : Jvm.MethodName) ({ cls := "SurveyStoreModel", name := "thrown", desc := "()I" } : Jvm.MethodName)) ∈ zTW := zin4 (List.mem_of_getElem? (i := 20) rfl)
theorem q741 : (Jvm.Cond.code ({ cls := "SurveyStoreModel", name := "thrown", desc := "()I" } : Jvm.MethodName) prog_8_method_2_code (1 : Nat) (Option.some Jvm.ClassFile.FieldType.int)) ∈ zTW := zin4 (List.mem_of_getElem? (i := 21) rfl)
theorem q742 : (Jvm.Cond.methodLink "SurveyStoreLaw" (58 : Nat) ({ cls := "SurveyStoreModel", name := "kind", desc := "(II)Z" } : Jvm.MethodName)) ∈ zTW := zin4 (List.mem_of_getElem? (i := 22) rfl)
theorem q743 : (Jvm.Cond.instanceMethod ({ cls := "SurveyStoreModel", name := "kind", desc := "(II)Z" } : Jvm.MethodName)) ∈ zTW := zin4 (List.mem_of_getElem? (i := 23) rfl)
theorem q744 : (Jvm.Cond.selects "SurveyStoreModel" ({ cls := "SurveyStoreModel", name := "kind", desc := "(II)Z" } : Jvm.MethodName) ({ cls := "SurveyStoreModel", name := "kind", desc := "(II)Z" } : Jvm.MethodName)) ∈ zTW := zin4 (List.mem_of_getElem? (i := 24) rfl)
theorem q745 : (Jvm.Cond.code ({ cls := "SurveyStoreModel", name := "kind", desc := "(II)Z" } : Jvm.MethodName) prog_8_method_10_code (3 : Nat) (Option.some Jvm.ClassFile.FieldType.boolean)) ∈ zTW := zin4 (List.mem_of_getElem? (i := 25) rfl)
theorem q746 : (Jvm.Cond.methodLink "SurveyStoreModel" (102 : Nat) ({ cls := "SurveyStoreModel", name := "isLayer", desc := "(I)Z" } : Jvm.MethodName)) ∈ zTW := zin4 (List.mem_of_getElem? (i := 26) rfl)
theorem q747 : (Jvm.Cond.static ({ cls := "SurveyStoreModel", name := "isLayer", desc := "(I)Z" } : Jvm.MethodName)) ∈ zTW := zin4 (List.mem_of_getElem? (i := 27) rfl)
theorem q748 : (Jvm.Cond.code ({ cls := "SurveyStoreModel", name := "isLayer", desc := "(I)Z" } : Jvm.MethodName) prog_8_method_4_code (1 : Nat) (Option.some Jvm.ClassFile.FieldType.boolean)) ∈ zTW := zin4 (List.mem_of_getElem? (i := 28) rfl)
theorem q749 : (Jvm.Cond.methodLink "SurveyStoreLaw" (64 : Nat) ({ cls := "SurveyStoreModel", name := "branch", desc := "(II)V" } : Jvm.MethodName)) ∈ zTW := zin4 (List.mem_of_getElem? (i := 29) rfl)
theorem q750 : (Jvm.Cond.instanceMethod ({ cls := "SurveyStoreModel", name := "branch", desc := "(II)V" } : Jvm.MethodName)) ∈ zTW := zin4 (List.mem_of_getElem? (i := 30) rfl)
theorem q751 : (Jvm.Cond.selects "SurveyStoreModel" ({ cls := "SurveyStoreModel", name := "branch", desc := "(II)V" } : Jvm.MethodName) ({ cls := "SurveyStoreModel", name := "branch", desc := "(II)V" } : Jvm.MethodName)) ∈ zTW := zin4 (List.mem_of_getElem? (i := 31) rfl)
theorem q752 : (Jvm.Cond.code ({ cls := "SurveyStoreModel", name := "branch", desc := "(II)V" } : Jvm.MethodName) prog_8_method_12_code (3 : Nat) (Option.none : Option Jvm.ClassFile.FieldType)) ∈ zTW := zin4 (List.mem_of_getElem? (i := 32) rfl)
theorem q753 : (Jvm.Cond.methodLink "SurveyStoreModel" (93 : Nat) ({ cls := "SurveyStoreModel", name := "isCommit", desc := "(I)Z" } : Jvm.MethodName)) ∈ zTW := zin4 (List.mem_of_getElem? (i := 33) rfl)
theorem q754 : (Jvm.Cond.privateMethod ({ cls := "SurveyStoreModel", name := "isCommit", desc := "(I)Z" } : Jvm.MethodName)) ∈ zTW := zin4 (List.mem_of_getElem? (i := 34) rfl)
theorem q755 : (Jvm.Cond.instanceMethod ({ cls := "SurveyStoreModel", name := "isCommit", desc := "(I)Z" } : Jvm.MethodName)) ∈ zTW := zin4 (List.mem_of_getElem? (i := 35) rfl)
theorem q756 : (Jvm.Cond.code ({ cls := "SurveyStoreModel", name := "isCommit", desc := "(I)Z" } : Jvm.MethodName) prog_8_method_6_code (2 : Nat) (Option.some Jvm.ClassFile.FieldType.boolean)) ∈ zTW := zin4 (List.mem_of_getElem? (i := 36) rfl)
theorem q757 : (Jvm.Cond.methodLink "SurveyStoreModel" (105 : Nat) ({ cls := "SurveyStoreModel", name := "become", desc := "(II)V" } : Jvm.MethodName)) ∈ zTW := zin4 (List.mem_of_getElem? (i := 37) rfl)
theorem q758 : (Jvm.Cond.privateMethod ({ cls := "SurveyStoreModel", name := "become", desc := "(II)V" } : Jvm.MethodName)) ∈ zTW := zin4 (List.mem_of_getElem? (i := 38) rfl)
theorem q759 : (Jvm.Cond.instanceMethod ({ cls := "SurveyStoreModel", name := "become", desc := "(II)V" } : Jvm.MethodName)) ∈ zTW := zin4 (List.mem_of_getElem? (i := 39) rfl)
theorem q760 : (Jvm.Cond.code ({ cls := "SurveyStoreModel", name := "become", desc := "(II)V" } : Jvm.MethodName) prog_8_method_11_code (4 : Nat) (Option.none : Option Jvm.ClassFile.FieldType)) ∈ zTW := zin4 (List.mem_of_getElem? (i := 40) rfl)
theorem q761 : (Jvm.Cond.methodLink "SurveyStoreLaw" (73 : Nat) ({ cls := "SurveyStoreModel", name := "drop", desc := "(I)Z" } : Jvm.MethodName)) ∈ zTW := zin4 (List.mem_of_getElem? (i := 41) rfl)
theorem q762 : (Jvm.Cond.instanceMethod ({ cls := "SurveyStoreModel", name := "drop", desc := "(I)Z" } : Jvm.MethodName)) ∈ zTW := zin4 (List.mem_of_getElem? (i := 42) rfl)
theorem q763 : (Jvm.Cond.selects "SurveyStoreModel" ({ cls := "SurveyStoreModel", name := "drop", desc := "(I)Z" } : Jvm.MethodName) ({ cls := "SurveyStoreModel", name := "drop", desc := "(I)Z" } : Jvm.MethodName)) ∈ zTW := zin4 (List.mem_of_getElem? (i := 43) rfl)
theorem q764 : (Jvm.Cond.code ({ cls := "SurveyStoreModel", name := "drop", desc := "(I)Z" } : Jvm.MethodName) prog_8_method_13_code (3 : Nat) (Option.some Jvm.ClassFile.FieldType.boolean)) ∈ zTW := zin4 (List.mem_of_getElem? (i := 44) rfl)
theorem q765 : (Jvm.Cond.methodLink "SurveyStoreModel" (97 : Nat) ({ cls := "SurveyStoreModel", name := "isBranch", desc := "(I)Z" } : Jvm.MethodName)) ∈ zTW := zin4 (List.mem_of_getElem? (i := 45) rfl)
theorem q766 : (Jvm.Cond.privateMethod ({ cls := "SurveyStoreModel", name := "isBranch", desc := "(I)Z" } : Jvm.MethodName)) ∈ zTW := zin4 (List.mem_of_getElem? (i := 46) rfl)
theorem q767 : (Jvm.Cond.instanceMethod ({ cls := "SurveyStoreModel", name := "isBranch", desc := "(I)Z" } : Jvm.MethodName)) ∈ zTW := zin4 (List.mem_of_getElem? (i := 47) rfl)
theorem q768 : (Jvm.Cond.code ({ cls := "SurveyStoreModel", name := "isBranch", desc := "(I)Z" } : Jvm.MethodName) prog_8_method_5_code (2 : Nat) (Option.some Jvm.ClassFile.FieldType.boolean)) ∈ zTW := zin4 (List.mem_of_getElem? (i := 48) rfl)
theorem q769 : (Jvm.Cond.methodLink "SurveyStoreLaw" (78 : Nat) ({ cls := "SurveyStoreModel", name := "region", desc := "(IIII)Z" } : Jvm.MethodName)) ∈ zTW := zin4 (List.mem_of_getElem? (i := 49) rfl)
theorem q770 : (Jvm.Cond.instanceMethod ({ cls := "SurveyStoreModel", name := "region", desc := "(IIII)Z" } : Jvm.MethodName)) ∈ zTW := zin4 (List.mem_of_getElem? (i := 50) rfl)
theorem q771 : (Jvm.Cond.selects "SurveyStoreModel" ({ cls := "SurveyStoreModel", name := "region", desc := "(IIII)Z" } : Jvm.MethodName) ({ cls := "SurveyStoreModel", name := "region", desc := "(IIII)Z" } : Jvm.MethodName)) ∈ zTW := zin4 (List.mem_of_getElem? (i := 51) rfl)
theorem q772 : (Jvm.Cond.code ({ cls := "SurveyStoreModel", name := "region", desc := "(IIII)Z" } : Jvm.MethodName) prog_8_method_14_code (5 : Nat) (Option.some Jvm.ClassFile.FieldType.boolean)) ∈ zTW := zin4 (List.mem_of_getElem? (i := 52) rfl)
theorem q773 : (Jvm.Cond.methodLink "SurveyStoreLaw" (82 : Nat) ({ cls := "SurveyStoreModel", name := "paint", desc := "(III)V" } : Jvm.MethodName)) ∈ zTW := zin4 (List.mem_of_getElem? (i := 53) rfl)
theorem q774 : (Jvm.Cond.instanceMethod ({ cls := "SurveyStoreModel", name := "paint", desc := "(III)V" } : Jvm.MethodName)) ∈ zTW := zin4 (List.mem_of_getElem? (i := 54) rfl)
theorem q775 : (Jvm.Cond.selects "SurveyStoreModel" ({ cls := "SurveyStoreModel", name := "paint", desc := "(III)V" } : Jvm.MethodName) ({ cls := "SurveyStoreModel", name := "paint", desc := "(III)V" } : Jvm.MethodName)) ∈ zTW := zin4 (List.mem_of_getElem? (i := 55) rfl)
theorem q776 : (Jvm.Cond.code ({ cls := "SurveyStoreModel", name := "paint", desc := "(III)V" } : Jvm.MethodName) prog_8_method_16_code (6 : Nat) (Option.none : Option Jvm.ClassFile.FieldType)) ∈ zTW := zin4 (List.mem_of_getElem? (i := 56) rfl)
theorem q777 : (Jvm.Cond.methodLink "SurveyStoreModel" (116 : Nat) ({ cls := "SurveyStoreModel", name := "isValue", desc := "(I)Z" } : Jvm.MethodName)) ∈ zTW := zin4 (List.mem_of_getElem? (i := 57) rfl)
theorem q778 : (Jvm.Cond.static ({ cls := "SurveyStoreModel", name := "isValue", desc := "(I)Z" } : Jvm.MethodName)) ∈ zTW := zin4 (List.mem_of_getElem? (i := 58) rfl)
theorem q779 : (Jvm.Cond.code ({ cls := "SurveyStoreModel", name := "isValue", desc := "(I)Z" } : Jvm.MethodName) prog_8_method_8_code (1 : Nat) (Option.some Jvm.ClassFile.FieldType.boolean)) ∈ zTW := zin4 (List.mem_of_getElem? (i := 59) rfl)
theorem q780 : (Jvm.Cond.constant "SurveyStoreModel" (100 : Nat) (-1000000 : Int32)) ∈ zTW := zin4 (List.mem_of_getElem? (i := 60) rfl)
theorem q781 : (Jvm.Cond.constant "SurveyStoreModel" (101 : Nat) (1000000 : Int32)) ∈ zTW := zin4 (List.mem_of_getElem? (i := 61) rfl)
theorem q782 : (Jvm.Cond.methodLink "SurveyStoreModel" (119 : Nat) ({ cls := "SurveyStoreModel", name := "fails", desc := "(Z)Z" } : Jvm.MethodName)) ∈ zTW := zin4 (List.mem_of_getElem? (i := 62) rfl)
theorem q783 : (Jvm.Cond.privateMethod ({ cls := "SurveyStoreModel", name := "fails", desc := "(Z)Z" } : Jvm.MethodName)) ∈ zTW := zin4 (List.mem_of_getElem? (i := 63) rfl)
theorem q784 : (Jvm.Cond.instanceMethod ({ cls := "SurveyStoreModel", name := "fails", desc := "(Z)Z" } : Jvm.MethodName)) ∈ zTW := zin4 (List.mem_of_getElem? (i := 64) rfl)
theorem q785 : (Jvm.Cond.code ({ cls := "SurveyStoreModel", name := "fails", desc := "(Z)Z" } : Jvm.MethodName) prog_8_method_3_code (2 : Nat) (Option.some Jvm.ClassFile.FieldType.boolean)) ∈ zTW := zin4 (List.mem_of_getElem? (i := 65) rfl)
theorem q786 : (Jvm.Cond.methodLink "SurveyStoreModel" (123 : Nat) ({ cls := "SurveyStoreModel", name := "cellOf", desc := "(III)I" } : Jvm.MethodName)) ∈ zTW := zin4 (List.mem_of_getElem? (i := 66) rfl)
theorem q787 : (Jvm.Cond.static ({ cls := "SurveyStoreModel", name := "cellOf", desc := "(III)I" } : Jvm.MethodName)) ∈ zTW := zin4 (List.mem_of_getElem? (i := 67) rfl)
theorem q788 : (Jvm.Cond.code ({ cls := "SurveyStoreModel", name := "cellOf", desc := "(III)I" } : Jvm.MethodName) prog_8_method_9_code (3 : Nat) (Option.some Jvm.ClassFile.FieldType.int)) ∈ zTW := zin4 (List.mem_of_getElem? (i := 68) rfl)
theorem q789 : (Jvm.Cond.methodLink "SurveyStoreModel" (127 : Nat) ({ cls := "SurveyStoreModel", name := "give", desc := "(III)V" } : Jvm.MethodName)) ∈ zTW := zin4 (List.mem_of_getElem? (i := 69) rfl)
theorem q790 : (Jvm.Cond.privateMethod ({ cls := "SurveyStoreModel", name := "give", desc := "(III)V" } : Jvm.MethodName)) ∈ zTW := zin4 (List.mem_of_getElem? (i := 70) rfl)
theorem q791 : (Jvm.Cond.instanceMethod ({ cls := "SurveyStoreModel", name := "give", desc := "(III)V" } : Jvm.MethodName)) ∈ zTW := zin4 (List.mem_of_getElem? (i := 71) rfl)
theorem q792 : (Jvm.Cond.code ({ cls := "SurveyStoreModel", name := "give", desc := "(III)V" } : Jvm.MethodName) prog_8_method_15_code (4 : Nat) (Option.none : Option Jvm.ClassFile.FieldType)) ∈ zTW := zin4 (List.mem_of_getElem? (i := 72) rfl)
theorem q793 : (Jvm.Cond.constant "SurveyStoreModel" (115 : Nat) (98304 : Int32)) ∈ zTW := zin4 (List.mem_of_getElem? (i := 73) rfl)
theorem q794 : (Jvm.Cond.methodLink "SurveyStoreLaw" (87 : Nat) ({ cls := "SurveyStoreModel", name := "corner", desc := "(III)Z" } : Jvm.MethodName)) ∈ zTW := zin4 (List.mem_of_getElem? (i := 74) rfl)
theorem q795 : (Jvm.Cond.instanceMethod ({ cls := "SurveyStoreModel", name := "corner", desc := "(III)Z" } : Jvm.MethodName)) ∈ zTW := zin4 (List.mem_of_getElem? (i := 75) rfl)
theorem q796 : (Jvm.Cond.selects "SurveyStoreModel" ({ cls := "SurveyStoreModel", name := "corner", desc := "(III)Z" } : Jvm.MethodName) ({ cls := "SurveyStoreModel", name := "corner", desc := "(III)Z" } : Jvm.MethodName)) ∈ zTW := zin4 (List.mem_of_getElem? (i := 76) rfl)
theorem q797 : (Jvm.Cond.code ({ cls := "SurveyStoreModel", name := "corner", desc := "(III)Z" } : Jvm.MethodName) prog_8_method_17_code (4 : Nat) (Option.some Jvm.ClassFile.FieldType.boolean)) ∈ zTW := zin4 (List.mem_of_getElem? (i := 77) rfl)
theorem q798 : (Jvm.Cond.methodLink "SurveyStoreLaw" (91 : Nat) ({ cls := "SurveyStoreModel", name := "polygon", desc := "(IIII)V" } : Jvm.MethodName)) ∈ zTW := zin4 (List.mem_of_getElem? (i := 78) rfl)
theorem q799 : (Jvm.Cond.instanceMethod ({ cls := "SurveyStoreModel", name := "polygon", desc := "(IIII)V" } : Jvm.MethodName)) ∈ zTW := zin4 (List.mem_of_getElem? (i := 79) rfl)
theorem q800 : (Jvm.Cond.selects "SurveyStoreModel" ({ cls := "SurveyStoreModel", name := "polygon", desc := "(IIII)V" } : Jvm.MethodName) ({ cls := "SurveyStoreModel", name := "polygon", desc := "(IIII)V" } : Jvm.MethodName)) ∈ zTW := zin4 (List.mem_of_getElem? (i := 80) rfl)
theorem q801 : (Jvm.Cond.code ({ cls := "SurveyStoreModel", name := "polygon", desc := "(IIII)V" } : Jvm.MethodName) prog_8_method_18_code (9 : Nat) (Option.none : Option Jvm.ClassFile.FieldType)) ∈ zTW := zin4 (List.mem_of_getElem? (i := 81) rfl)
theorem q802 : (Jvm.Cond.methodLink "SurveyStoreModel" (131 : Nat) ({ cls := "SurveyStoreModel", name := "meets", desc := "(IIII)Z" } : Jvm.MethodName)) ∈ zTW := zin4 (List.mem_of_getElem? (i := 82) rfl)
theorem q803 : (Jvm.Cond.privateMethod ({ cls := "SurveyStoreModel", name := "meets", desc := "(IIII)Z" } : Jvm.MethodName)) ∈ zTW := zin4 (List.mem_of_getElem? (i := 83) rfl)
theorem q804 : (Jvm.Cond.instanceMethod ({ cls := "SurveyStoreModel", name := "meets", desc := "(IIII)Z" } : Jvm.MethodName)) ∈ zTW := zin4 (List.mem_of_getElem? (i := 84) rfl)
theorem q805 : (Jvm.Cond.code ({ cls := "SurveyStoreModel", name := "meets", desc := "(IIII)Z" } : Jvm.MethodName) prog_8_method_19_code (11 : Nat) (Option.some Jvm.ClassFile.FieldType.boolean)) ∈ zTW := zin4 (List.mem_of_getElem? (i := 85) rfl)
theorem q806 : (Jvm.Cond.methodLink "SurveyStoreLaw" (95 : Nat) ({ cls := "SurveyStoreModel", name := "copy", desc := "(IIIIII)V" } : Jvm.MethodName)) ∈ zTW := zin4 (List.mem_of_getElem? (i := 86) rfl)
theorem q807 : (Jvm.Cond.instanceMethod ({ cls := "SurveyStoreModel", name := "copy", desc := "(IIIIII)V" } : Jvm.MethodName)) ∈ zTW := zin4 (List.mem_of_getElem? (i := 87) rfl)
theorem q808 : (Jvm.Cond.selects "SurveyStoreModel" ({ cls := "SurveyStoreModel", name := "copy", desc := "(IIIIII)V" } : Jvm.MethodName) ({ cls := "SurveyStoreModel", name := "copy", desc := "(IIIIII)V" } : Jvm.MethodName)) ∈ zTW := zin4 (List.mem_of_getElem? (i := 88) rfl)
theorem q809 : (Jvm.Cond.code ({ cls := "SurveyStoreModel", name := "copy", desc := "(IIIIII)V" } : Jvm.MethodName) prog_8_method_20_code (12 : Nat) (Option.none : Option Jvm.ClassFile.FieldType)) ∈ zTW := zin4 (List.mem_of_getElem? (i := 89) rfl)
theorem q810 : (Jvm.Cond.methodLink "SurveyStoreLaw" (99 : Nat) ({ cls := "SurveyStoreModel", name := "entry", desc := "(III)Z" } : Jvm.MethodName)) ∈ zTW := zin4 (List.mem_of_getElem? (i := 90) rfl)
theorem q811 : (Jvm.Cond.instanceMethod ({ cls := "SurveyStoreModel", name := "entry", desc := "(III)Z" } : Jvm.MethodName)) ∈ zTW := zin4 (List.mem_of_getElem? (i := 91) rfl)
theorem q812 : (Jvm.Cond.selects "SurveyStoreModel" ({ cls := "SurveyStoreModel", name := "entry", desc := "(III)Z" } : Jvm.MethodName) ({ cls := "SurveyStoreModel", name := "entry", desc := "(III)Z" } : Jvm.MethodName)) ∈ zTW := zin4 (List.mem_of_getElem? (i := 92) rfl)
theorem q813 : (Jvm.Cond.code ({ cls := "SurveyStoreModel", name := "entry", desc := "(III)Z" } : Jvm.MethodName) prog_8_method_21_code (4 : Nat) (Option.some Jvm.ClassFile.FieldType.boolean)) ∈ zTW := zin4 (List.mem_of_getElem? (i := 93) rfl)
theorem q814 : (Jvm.Cond.methodLink "SurveyStoreLaw" (102 : Nat) ({ cls := "SurveyStoreModel", name := "map", desc := "(II)V" } : Jvm.MethodName)) ∈ zTW := zin4 (List.mem_of_getElem? (i := 94) rfl)
theorem q815 : (Jvm.Cond.instanceMethod ({ cls := "SurveyStoreModel", name := "map", desc := "(II)V" } : Jvm.MethodName)) ∈ zTW := zin4 (List.mem_of_getElem? (i := 95) rfl)
theorem q816 : (Jvm.Cond.selects "SurveyStoreModel" ({ cls := "SurveyStoreModel", name := "map", desc := "(II)V" } : Jvm.MethodName) ({ cls := "SurveyStoreModel", name := "map", desc := "(II)V" } : Jvm.MethodName)) ∈ zTW := zin4 (List.mem_of_getElem? (i := 96) rfl)
theorem q817 : (Jvm.Cond.code ({ cls := "SurveyStoreModel", name := "map", desc := "(II)V" } : Jvm.MethodName) prog_8_method_22_code (9 : Nat) (Option.none : Option Jvm.ClassFile.FieldType)) ∈ zTW := zin4 (List.mem_of_getElem? (i := 97) rfl)
theorem q818 : (Jvm.Cond.methodLink "SurveyStoreLaw" (105 : Nat) ({ cls := "SurveyStoreModel", name := "combine", desc := "(IIII)V" } : Jvm.MethodName)) ∈ zTW := zin4 (List.mem_of_getElem? (i := 98) rfl)
theorem q819 : (Jvm.Cond.instanceMethod ({ cls := "SurveyStoreModel", name := "combine", desc := "(IIII)V" } : Jvm.MethodName)) ∈ zTW := zin4 (List.mem_of_getElem? (i := 99) rfl)
theorem q820 : (Jvm.Cond.selects "SurveyStoreModel" ({ cls := "SurveyStoreModel", name := "combine", desc := "(IIII)V" } : Jvm.MethodName) ({ cls := "SurveyStoreModel", name := "combine", desc := "(IIII)V" } : Jvm.MethodName)) ∈ zTW := zin4 (List.mem_of_getElem? (i := 100) rfl)
theorem q821 : (Jvm.Cond.code ({ cls := "SurveyStoreModel", name := "combine", desc := "(IIII)V" } : Jvm.MethodName) prog_8_method_23_code (12 : Nat) (Option.none : Option Jvm.ClassFile.FieldType)) ∈ zTW := zin4 (List.mem_of_getElem? (i := 101) rfl)
theorem q822 : (Jvm.Cond.methodLink "SurveyStoreLaw" (109 : Nat) ({ cls := "SurveyStoreModel", name := "commit", desc := "(I)I" } : Jvm.MethodName)) ∈ zTW := zin4 (List.mem_of_getElem? (i := 102) rfl)
theorem q823 : (Jvm.Cond.instanceMethod ({ cls := "SurveyStoreModel", name := "commit", desc := "(I)I" } : Jvm.MethodName)) ∈ zTW := zin4 (List.mem_of_getElem? (i := 103) rfl)
theorem q824 : (Jvm.Cond.selects "SurveyStoreModel" ({ cls := "SurveyStoreModel", name := "commit", desc := "(I)I" } : Jvm.MethodName) ({ cls := "SurveyStoreModel", name := "commit", desc := "(I)I" } : Jvm.MethodName)) ∈ zTW := zin4 (List.mem_of_getElem? (i := 104) rfl)
theorem q825 : (Jvm.Cond.code ({ cls := "SurveyStoreModel", name := "commit", desc := "(I)I" } : Jvm.MethodName) prog_8_method_26_code (4 : Nat) (Option.some Jvm.ClassFile.FieldType.int)) ∈ zTW := zin4 (List.mem_of_getElem? (i := 105) rfl)
theorem q826 : (Jvm.Cond.methodLink "SurveyStoreModel" (135 : Nat) ({ cls := "SurveyStoreModel", name := "isChanged", desc := "(I)Z" } : Jvm.MethodName)) ∈ zTW := zin4 (List.mem_of_getElem? (i := 106) rfl)
theorem q827 : (Jvm.Cond.privateMethod ({ cls := "SurveyStoreModel", name := "isChanged", desc := "(I)Z" } : Jvm.MethodName)) ∈ zTW := zin4 (List.mem_of_getElem? (i := 107) rfl)
theorem q828 : (Jvm.Cond.instanceMethod ({ cls := "SurveyStoreModel", name := "isChanged", desc := "(I)Z" } : Jvm.MethodName)) ∈ zTW := zin4 (List.mem_of_getElem? (i := 108) rfl)
theorem q829 : (Jvm.Cond.code ({ cls := "SurveyStoreModel", name := "isChanged", desc := "(I)Z" } : Jvm.MethodName) prog_8_method_24_code (4 : Nat) (Option.some Jvm.ClassFile.FieldType.boolean)) ∈ zTW := zin4 (List.mem_of_getElem? (i := 109) rfl)
theorem q830 : (Jvm.Cond.methodLink "SurveyStoreModel" (138 : Nat) ({ cls := "SurveyStoreModel", name := "unsettled", desc := "(I)I" } : Jvm.MethodName)) ∈ zTW := zin4 (List.mem_of_getElem? (i := 110) rfl)
theorem q831 : (Jvm.Cond.privateMethod ({ cls := "SurveyStoreModel", name := "unsettled", desc := "(I)I" } : Jvm.MethodName)) ∈ zTW := zin4 (List.mem_of_getElem? (i := 111) rfl)
theorem q832 : (Jvm.Cond.instanceMethod ({ cls := "SurveyStoreModel", name := "unsettled", desc := "(I)I" } : Jvm.MethodName)) ∈ zTW := zin4 (List.mem_of_getElem? (i := 112) rfl)
theorem q833 : (Jvm.Cond.code ({ cls := "SurveyStoreModel", name := "unsettled", desc := "(I)I" } : Jvm.MethodName) prog_8_method_25_code (4 : Nat) (Option.some Jvm.ClassFile.FieldType.int)) ∈ zTW := zin4 (List.mem_of_getElem? (i := 113) rfl)
theorem q834 : (Jvm.Cond.methodLink "SurveyStoreLaw" (113 : Nat) ({ cls := "SurveyStoreModel", name := "merge", desc := "(II)I" } : Jvm.MethodName)) ∈ zTW := zin4 (List.mem_of_getElem? (i := 114) rfl)
theorem q835 : (Jvm.Cond.instanceMethod ({ cls := "SurveyStoreModel", name := "merge", desc := "(II)I" } : Jvm.MethodName)) ∈ zTW := zin4 (List.mem_of_getElem? (i := 115) rfl)
theorem q836 : (Jvm.Cond.selects "SurveyStoreModel" ({ cls := "SurveyStoreModel", name := "merge", desc := "(II)I" } : Jvm.MethodName) ({ cls := "SurveyStoreModel", name := "merge", desc := "(II)I" } : Jvm.MethodName)) ∈ zTW := zin4 (List.mem_of_getElem? (i := 116) rfl)
theorem q837 : (Jvm.Cond.code ({ cls := "SurveyStoreModel", name := "merge", desc := "(II)I" } : Jvm.MethodName) prog_8_method_34_code (9 : Nat) (Option.some Jvm.ClassFile.FieldType.int)) ∈ zTW := zin4 (List.mem_of_getElem? (i := 117) rfl)
theorem q838 : (Jvm.Cond.methodLink "SurveyStoreModel" (142 : Nat) ({ cls := "SurveyStoreModel", name := "ancestors", desc := "(I)I" } : Jvm.MethodName)) ∈ zTW := zin4 (List.mem_of_getElem? (i := 118) rfl)
theorem q839 : (Jvm.Cond.privateMethod ({ cls := "SurveyStoreModel", name := "ancestors", desc := "(I)I" } : Jvm.MethodName)) ∈ zTW := zin4 (List.mem_of_getElem? (i := 119) rfl)
theorem q840 : (Jvm.Cond.instanceMethod ({ cls := "SurveyStoreModel", name := "ancestors", desc := "(I)I" } : Jvm.MethodName)) ∈ zTW := zin4 (List.mem_of_getElem? (i := 120) rfl)
theorem q841 : (Jvm.Cond.code ({ cls := "SurveyStoreModel", name := "ancestors", desc := "(I)I" } : Jvm.MethodName) prog_8_method_27_code (4 : Nat) (Option.some Jvm.ClassFile.FieldType.int)) ∈ zTW := zin4 (List.mem_of_getElem? (i := 121) rfl)
theorem q842 : (Jvm.Cond.methodLink "SurveyStoreModel" (158 : Nat) ({ cls := "SurveyStoreModel", name := "base", desc := "(II)V" } : Jvm.MethodName)) ∈ zTW := zin4 (List.mem_of_getElem? (i := 122) rfl)
theorem q843 : (Jvm.Cond.privateMethod ({ cls := "SurveyStoreModel", name := "base", desc := "(II)V" } : Jvm.MethodName)) ∈ zTW := zin4 (List.mem_of_getElem? (i := 123) rfl)
theorem q844 : (Jvm.Cond.instanceMethod ({ cls := "SurveyStoreModel", name := "base", desc := "(II)V" } : Jvm.MethodName)) ∈ zTW := zin4 (List.mem_of_getElem? (i := 124) rfl)
theorem q845 : (Jvm.Cond.code ({ cls := "SurveyStoreModel", name := "base", desc := "(II)V" } : Jvm.MethodName) prog_8_method_32_code (6 : Nat) (Option.none : Option Jvm.ClassFile.FieldType)) ∈ zTW := zin4 (List.mem_of_getElem? (i := 125) rfl)
theorem q846 : (Jvm.Cond.methodLink "SurveyStoreModel" (149 : Nat) ({ cls := "SurveyStoreModel", name := "beginBase", desc := "(III)V" } : Jvm.MethodName)) ∈ zTW := zin4 (List.mem_of_getElem? (i := 126) rfl)
theorem q847 : (Jvm.Cond.privateMethod ({ cls := "SurveyStoreModel", name := "beginBase", desc := "(III)V" } : Jvm.MethodName)) ∈ zTW := zin4 (List.mem_of_getElem? (i := 127) rfl)
theorem q848 : (Jvm.Cond.instanceMethod ({ cls := "SurveyStoreModel", name := "beginBase", desc := "(III)V" } : Jvm.MethodName)) ∈ zTW := zin4 (List.mem_of_getElem? (i := 128) rfl)
theorem q849 : (Jvm.Cond.code ({ cls := "SurveyStoreModel", name := "beginBase", desc := "(III)V" } : Jvm.MethodName) prog_8_method_29_code (4 : Nat) (Option.none : Option Jvm.ClassFile.FieldType)) ∈ zTW := zin4 (List.mem_of_getElem? (i := 129) rfl)
theorem q850 : (Jvm.Cond.methodLink "SurveyStoreModel" (145 : Nat) ({ cls := "SurveyStoreModel", name := "nearestOf", desc := "(II)I" } : Jvm.MethodName)) ∈ zTW := zin4 (List.mem_of_getElem? (i := 130) rfl)
theorem q851 : (Jvm.Cond.privateMethod ({ cls := "SurveyStoreModel", name := "nearestOf", desc := "(II)I" } : Jvm.MethodName)) ∈ zTW := zin4 (List.mem_of_getElem? (i := 131) rfl)
theorem q852 : (Jvm.Cond.instanceMethod ({ cls := "SurveyStoreModel", name := "nearestOf", desc := "(II)I" } : Jvm.MethodName)) ∈ zTW := zin4 (List.mem_of_getElem? (i := 132) rfl)
theorem q853 : (Jvm.Cond.code ({ cls := "SurveyStoreModel", name := "nearestOf", desc := "(II)I" } : Jvm.MethodName) prog_8_method_28_code (8 : Nat) (Option.some Jvm.ClassFile.FieldType.int)) ∈ zTW := zin4 (List.mem_of_getElem? (i := 133) rfl)
theorem q854 : (Jvm.Cond.methodLink "SurveyStoreModel" (152 : Nat) ({ cls := "SurveyStoreModel", name := "next", desc := "(II)I" } : Jvm.MethodName)) ∈ zTW := zin4 (List.mem_of_getElem? (i := 134) rfl)
theorem q855 : (Jvm.Cond.static ({ cls := "SurveyStoreModel", name := "next", desc := "(II)I" } : Jvm.MethodName)) ∈ zTW := zin4 (List.mem_of_getElem? (i := 135) rfl)
theorem q856 : (Jvm.Cond.code ({ cls := "SurveyStoreModel", name := "next", desc := "(II)I" } : Jvm.MethodName) prog_8_method_30_code (3 : Nat) (Option.some Jvm.ClassFile.FieldType.int)) ∈ zTW := zin4 (List.mem_of_getElem? (i := 136) rfl)
theorem q857 : (Jvm.Cond.methodLink "SurveyStoreModel" (155 : Nat) ({ cls := "SurveyStoreModel", name := "joinBase", desc := "(II)V" } : Jvm.MethodName)) ∈ zTW := zin4 (List.mem_of_getElem? (i := 137) rfl)
theorem q858 : (Jvm.Cond.privateMethod ({ cls := "SurveyStoreModel", name := "joinBase", desc := "(II)V" } : Jvm.MethodName)) ∈ zTW := zin4 (List.mem_of_getElem? (i := 138) rfl)
theorem q859 : (Jvm.Cond.instanceMethod ({ cls := "SurveyStoreModel", name := "joinBase", desc := "(II)V" } : Jvm.MethodName)) ∈ zTW := zin4 (List.mem_of_getElem? (i := 139) rfl)
theorem q860 : (Jvm.Cond.code ({ cls := "SurveyStoreModel", name := "joinBase", desc := "(II)V" } : Jvm.MethodName) prog_8_method_31_code (7 : Nat) (Option.none : Option Jvm.ClassFile.FieldType)) ∈ zTW := zin4 (List.mem_of_getElem? (i := 140) rfl)
theorem q861 : (Jvm.Cond.methodLink "SurveyStoreModel" (161 : Nat) ({ cls := "SurveyStoreModel", name := "madeIn", desc := "(I)I" } : Jvm.MethodName)) ∈ zTW := zin4 (List.mem_of_getElem? (i := 141) rfl)
theorem q862 : (Jvm.Cond.privateMethod ({ cls := "SurveyStoreModel", name := "madeIn", desc := "(I)I" } : Jvm.MethodName)) ∈ zTW := zin4 (List.mem_of_getElem? (i := 142) rfl)
theorem q863 : (Jvm.Cond.instanceMethod ({ cls := "SurveyStoreModel", name := "madeIn", desc := "(I)I" } : Jvm.MethodName)) ∈ zTW := zin4 (List.mem_of_getElem? (i := 143) rfl)
theorem q864 : (Jvm.Cond.code ({ cls := "SurveyStoreModel", name := "madeIn", desc := "(I)I" } : Jvm.MethodName) prog_8_method_35_code (2 : Nat) (Option.some Jvm.ClassFile.FieldType.int)) ∈ zTW := zin4 (List.mem_of_getElem? (i := 144) rfl)
theorem q865 : (Jvm.Cond.methodLink "SurveyStoreModel" (164 : Nat) ({ cls := "SurveyStoreModel", name := "note", desc := "(IIIII)V" } : Jvm.MethodName)) ∈ zTW := zin4 (List.mem_of_getElem? (i := 145) rfl)
theorem q866 : (Jvm.Cond.privateMethod ({ cls := "SurveyStoreModel", name := "note", desc := "(IIIII)V" } : Jvm.MethodName)) ∈ zTW := zin4 (List.mem_of_getElem? (i := 146) rfl)
theorem q867 : (Jvm.Cond.instanceMethod ({ cls := "SurveyStoreModel", name := "note", desc := "(IIIII)V" } : Jvm.MethodName)) ∈ zTW := zin4 (List.mem_of_getElem? (i := 147) rfl)
theorem q868 : (Jvm.Cond.code ({ cls := "SurveyStoreModel", name := "note", desc := "(IIIII)V" } : Jvm.MethodName) prog_8_method_33_code (7 : Nat) (Option.none : Option Jvm.ClassFile.FieldType)) ∈ zTW := zin4 (List.mem_of_getElem? (i := 148) rfl)
theorem q869 : (Jvm.Cond.methodLink "SurveyStoreLaw" (117 : Nat) ({ cls := "SurveyStoreModel", name := "conflict", desc := "(III)I" } : Jvm.MethodName)) ∈ zTW := zin4 (List.mem_of_getElem? (i := 149) rfl)
theorem q870 : (Jvm.Cond.instanceMethod ({ cls := "SurveyStoreModel", name := "conflict", desc := "(III)I" } : Jvm.MethodName)) ∈ zTW := zin4 (List.mem_of_getElem? (i := 150) rfl)
theorem q871 : (Jvm.Cond.selects "SurveyStoreModel" ({ cls := "SurveyStoreModel", name := "conflict", desc := "(III)I" } : Jvm.MethodName) ({ cls := "SurveyStoreModel", name := "conflict", desc := "(III)I" } : Jvm.MethodName)) ∈ zTW := zin4 (List.mem_of_getElem? (i := 151) rfl)
theorem q872 : (Jvm.Cond.code ({ cls := "SurveyStoreModel", name := "conflict", desc := "(III)I" } : Jvm.MethodName) prog_8_method_37_code (5 : Nat) (Option.some Jvm.ClassFile.FieldType.int)) ∈ zTW := zin4 (List.mem_of_getElem? (i := 152) rfl)
theorem q873 : (Jvm.Cond.methodLink "SurveyStoreModel" (168 : Nat) ({ cls := "SurveyStoreModel", name := "isConflict", desc := "(II)Z" } : Jvm.MethodName)) ∈ zTW := zin4 (List.mem_of_getElem? (i := 153) rfl)
theorem q874 : (Jvm.Cond.privateMethod ({ cls := "SurveyStoreModel", name := "isConflict", desc := "(II)Z" } : Jvm.MethodName)) ∈ zTW := zin4 (List.mem_of_getElem? (i := 154) rfl)
theorem q875 : (Jvm.Cond.instanceMethod ({ cls := "SurveyStoreModel", name := "isConflict", desc := "(II)Z" } : Jvm.MethodName)) ∈ zTW := zin4 (List.mem_of_getElem? (i := 155) rfl)
theorem q876 : (Jvm.Cond.code ({ cls := "SurveyStoreModel", name := "isConflict", desc := "(II)Z" } : Jvm.MethodName) prog_8_method_36_code (3 : Nat) (Option.some Jvm.ClassFile.FieldType.boolean)) ∈ zTW := zin4 (List.mem_of_getElem? (i := 156) rfl)
theorem q877 : (Jvm.Cond.methodLink "SurveyStoreLaw" (121 : Nat) ({ cls := "SurveyStoreModel", name := "settle", desc := "(III)I" } : Jvm.MethodName)) ∈ zTW := zin4 (List.mem_of_getElem? (i := 157) rfl)
theorem q878 : (Jvm.Cond.instanceMethod ({ cls := "SurveyStoreModel", name := "settle", desc := "(III)I" } : Jvm.MethodName)) ∈ zTW := zin4 (List.mem_of_getElem? (i := 158) rfl)
theorem q879 : (Jvm.Cond.selects "SurveyStoreModel" ({ cls := "SurveyStoreModel", name := "settle", desc := "(III)I" } : Jvm.MethodName) ({ cls := "SurveyStoreModel", name := "settle", desc := "(III)I" } : Jvm.MethodName)) ∈ zTW := zin4 (List.mem_of_getElem? (i := 159) rfl)
theorem q880 : (Jvm.Cond.code ({ cls := "SurveyStoreModel", name := "settle", desc := "(III)I" } : Jvm.MethodName) prog_8_method_38_code (4 : Nat) (Option.some Jvm.ClassFile.FieldType.int)) ∈ zTW := zin4 (List.mem_of_getElem? (i := 160) rfl)
theorem q881 : (Jvm.Cond.methodLink "SurveyStoreLaw" (126 : Nat) ({ cls := "SurveyStoreModel", name := "value", desc := "(IIII)I" } : Jvm.MethodName)) ∈ zTW := zin4 (List.mem_of_getElem? (i := 161) rfl)
theorem q882 : (Jvm.Cond.instanceMethod ({ cls := "SurveyStoreModel", name := "value", desc := "(IIII)I" } : Jvm.MethodName)) ∈ zTW := zin4 (List.mem_of_getElem? (i := 162) rfl)
theorem q883 : (Jvm.Cond.selects "SurveyStoreModel" ({ cls := "SurveyStoreModel", name := "value", desc := "(IIII)I" } : Jvm.MethodName) ({ cls := "SurveyStoreModel", name := "value", desc := "(IIII)I" } : Jvm.MethodName)) ∈ zTW := zin4 (List.mem_of_getElem? (i := 163) rfl)
theorem q884 : (Jvm.Cond.code ({ cls := "SurveyStoreModel", name := "value", desc := "(IIII)I" } : Jvm.MethodName) prog_8_method_40_code (5 : Nat) (Option.some Jvm.ClassFile.FieldType.int)) ∈ zTW := zin4 (List.mem_of_getElem? (i := 164) rfl)
theorem q885 : (Jvm.Cond.methodLink "SurveyStoreModel" (175 : Nat) ({ cls := "SurveyStoreModel", name := "isCell", desc := "(IIII)Z" } : Jvm.MethodName)) ∈ zTW := zin4 (List.mem_of_getElem? (i := 165) rfl)
theorem q886 : (Jvm.Cond.privateMethod ({ cls := "SurveyStoreModel", name := "isCell", desc := "(IIII)Z" } : Jvm.MethodName)) ∈ zTW := zin4 (List.mem_of_getElem? (i := 166) rfl)
theorem q887 : (Jvm.Cond.instanceMethod ({ cls := "SurveyStoreModel", name := "isCell", desc := "(IIII)Z" } : Jvm.MethodName)) ∈ zTW := zin4 (List.mem_of_getElem? (i := 167) rfl)
theorem q888 : (Jvm.Cond.code ({ cls := "SurveyStoreModel", name := "isCell", desc := "(IIII)Z" } : Jvm.MethodName) prog_8_method_39_code (5 : Nat) (Option.some Jvm.ClassFile.FieldType.boolean)) ∈ zTW := zin4 (List.mem_of_getElem? (i := 168) rfl)
theorem q889 : (Jvm.Cond.methodLink "SurveyStoreModel" (172 : Nat) ({ cls := "SurveyStoreModel", name := "isPlace", desc := "(I)Z" } : Jvm.MethodName)) ∈ zTW := zin4 (List.mem_of_getElem? (i := 169) rfl)
theorem q890 : (Jvm.Cond.privateMethod ({ cls := "SurveyStoreModel", name := "isPlace", desc := "(I)Z" } : Jvm.MethodName)) ∈ zTW := zin4 (List.mem_of_getElem? (i := 170) rfl)
theorem q891 : (Jvm.Cond.instanceMethod ({ cls := "SurveyStoreModel", name := "isPlace", desc := "(I)Z" } : Jvm.MethodName)) ∈ zTW := zin4 (List.mem_of_getElem? (i := 171) rfl)
theorem q892 : (Jvm.Cond.code ({ cls := "SurveyStoreModel", name := "isPlace", desc := "(I)Z" } : Jvm.MethodName) prog_8_method_7_code (2 : Nat) (Option.some Jvm.ClassFile.FieldType.boolean)) ∈ zTW := zin4 (List.mem_of_getElem? (i := 172) rfl)
theorem q893 : (Jvm.Cond.methodLink "SurveyStoreLaw" (131 : Nat) ({ cls := "SurveyStoreModel", name := "origin", desc := "(IIIII)I" } : Jvm.MethodName)) ∈ zTW := zin4 (List.mem_of_getElem? (i := 173) rfl)
theorem q894 : (Jvm.Cond.instanceMethod ({ cls := "SurveyStoreModel", name := "origin", desc := "(IIIII)I" } : Jvm.MethodName)) ∈ zTW := zin4 (List.mem_of_getElem? (i := 174) rfl)
theorem q895 : (Jvm.Cond.selects "SurveyStoreModel" ({ cls := "SurveyStoreModel", name := "origin", desc := "(IIIII)I" } : Jvm.MethodName) ({ cls := "SurveyStoreModel", name := "origin", desc := "(IIIII)I" } : Jvm.MethodName)) ∈ zTW := zin4 (List.mem_of_getElem? (i := 175) rfl)
theorem q896 : (Jvm.Cond.code ({ cls := "SurveyStoreModel", name := "origin", desc := "(IIIII)I" } : Jvm.MethodName) prog_8_method_41_code (7 : Nat) (Option.some Jvm.ClassFile.FieldType.int)) ∈ zTW := zin4 (List.mem_of_getElem? (i := 176) rfl)
theorem q897 : (Jvm.Cond.methodLink "SurveyStoreLaw" (134 : Nat) ({ cls := "SurveyStoreModel", name := "total", desc := "(III)I" } : Jvm.MethodName)) ∈ zTW := zin4 (List.mem_of_getElem? (i := 177) rfl)
theorem q898 : (Jvm.Cond.instanceMethod ({ cls := "SurveyStoreModel", name := "total", desc := "(III)I" } : Jvm.MethodName)) ∈ zTW := zin4 (List.mem_of_getElem? (i := 178) rfl)
theorem q899 : (Jvm.Cond.selects "SurveyStoreModel" ({ cls := "SurveyStoreModel", name := "total", desc := "(III)I" } : Jvm.MethodName) ({ cls := "SurveyStoreModel", name := "total", desc := "(III)I" } : Jvm.MethodName)) ∈ zTW := zin4 (List.mem_of_getElem? (i := 179) rfl)
theorem q900 : (Jvm.Cond.code ({ cls := "SurveyStoreModel", name := "total", desc := "(III)I" } : Jvm.MethodName) prog_8_method_42_code (11 : Nat) (Option.some Jvm.ClassFile.FieldType.int)) ∈ zTW := zin4 (List.mem_of_getElem? (i := 180) rfl)
theorem q901 : (Jvm.Cond.methodLink "SurveyStoreLaw" (138 : Nat) ({ cls := "SurveyStoreModel", name := "differing", desc := "(III)I" } : Jvm.MethodName)) ∈ zTW := zin4 (List.mem_of_getElem? (i := 181) rfl)
theorem q902 : (Jvm.Cond.instanceMethod ({ cls := "SurveyStoreModel", name := "differing", desc := "(III)I" } : Jvm.MethodName)) ∈ zTW := zin4 (List.mem_of_getElem? (i := 182) rfl)
theorem q903 : (Jvm.Cond.selects "SurveyStoreModel" ({ cls := "SurveyStoreModel", name := "differing", desc := "(III)I" } : Jvm.MethodName) ({ cls := "SurveyStoreModel", name := "differing", desc := "(III)I" } : Jvm.MethodName)) ∈ zTW := zin4 (List.mem_of_getElem? (i := 183) rfl)
theorem q904 : (Jvm.Cond.code ({ cls := "SurveyStoreModel", name := "differing", desc := "(III)I" } : Jvm.MethodName) prog_8_method_43_code (6 : Nat) (Option.some Jvm.ClassFile.FieldType.int)) ∈ zTW := zin4 (List.mem_of_getElem? (i := 184) rfl)
theorem q905 : (Jvm.Cond.methodLink "SurveyStoreLaw" (142 : Nat) ({ cls := "SurveyStoreModel", name := "differs", desc := "(IIII)I" } : Jvm.MethodName)) ∈ zTW := zin4 (List.mem_of_getElem? (i := 185) rfl)
theorem q906 : (Jvm.Cond.instanceMethod ({ cls := "SurveyStoreModel", name := "differs", desc := "(IIII)I" } : Jvm.MethodName)) ∈ zTW := zin4 (List.mem_of_getElem? (i := 186) rfl)
theorem q907 : (Jvm.Cond.selects "SurveyStoreModel" ({ cls := "SurveyStoreModel", name := "differs", desc := "(IIII)I" } : Jvm.MethodName) ({ cls := "SurveyStoreModel", name := "differs", desc := "(IIII)I" } : Jvm.MethodName)) ∈ zTW := zin4 (List.mem_of_getElem? (i := 187) rfl)
theorem q908 : (Jvm.Cond.code ({ cls := "SurveyStoreModel", name := "differs", desc := "(IIII)I" } : Jvm.MethodName) prog_8_method_44_code (7 : Nat) (Option.some Jvm.ClassFile.FieldType.int)) ∈ zTW := zin4 (List.mem_of_getElem? (i := 188) rfl)
theorem q909 : (Jvm.Cond.methodLink "SurveyStoreLaw" (146 : Nat) ({ cls := "SurveyStoreModel", name := "nearest", desc := "(III)I" } : Jvm.MethodName)) ∈ zTW := zin4 (List.mem_of_getElem? (i := 189) rfl)
theorem q910 : (Jvm.Cond.instanceMethod ({ cls := "SurveyStoreModel", name := "nearest", desc := "(III)I" } : Jvm.MethodName)) ∈ zTW := zin4 (List.mem_of_getElem? (i := 190) rfl)
theorem q911 : (Jvm.Cond.selects "SurveyStoreModel" ({ cls := "SurveyStoreModel", name := "nearest", desc := "(III)I" } : Jvm.MethodName) ({ cls := "SurveyStoreModel", name := "nearest", desc := "(III)I" } : Jvm.MethodName)) ∈ zTW := zin4 (List.mem_of_getElem? (i := 191) rfl)
theorem q912 : (Jvm.Cond.code ({ cls := "SurveyStoreModel", name := "nearest", desc := "(III)I" } : Jvm.MethodName) prog_8_method_45_code (7 : Nat) (Option.some Jvm.ClassFile.FieldType.int)) ∈ zTW := zin4 (List.mem_of_getElem? (i := 192) rfl)
theorem q913 : (Jvm.Cond.methodLink "SurveyStoreLaw" (150 : Nat) ({ cls := "SurveyStoreModel", name := "about", desc := "(II)I" } : Jvm.MethodName)) ∈ zTW := zin4 (List.mem_of_getElem? (i := 193) rfl)
theorem q914 : (Jvm.Cond.instanceMethod ({ cls := "SurveyStoreModel", name := "about", desc := "(II)I" } : Jvm.MethodName)) ∈ zTW := zin4 (List.mem_of_getElem? (i := 194) rfl)
theorem q915 : (Jvm.Cond.selects "SurveyStoreModel" ({ cls := "SurveyStoreModel", name := "about", desc := "(II)I" } : Jvm.MethodName) ({ cls := "SurveyStoreModel", name := "about", desc := "(II)I" } : Jvm.MethodName)) ∈ zTW := zin4 (List.mem_of_getElem? (i := 195) rfl)
theorem q916 : (Jvm.Cond.code ({ cls := "SurveyStoreModel", name := "about", desc := "(II)I" } : Jvm.MethodName) prog_8_method_46_code (5 : Nat) (Option.some Jvm.ClassFile.FieldType.int)) ∈ zTW := zin4 (List.mem_of_getElem? (i := 196) rfl)
theorem q917 : (Jvm.Cond.methodLink "SurveyStoreLaw" (154 : Nat) ({ cls := "SurveyStoreModel", name := "blocks", desc := "(I)I" } : Jvm.MethodName)) ∈ zTW := zin4 (List.mem_of_getElem? (i := 197) rfl)
theorem q918 : (Jvm.Cond.instanceMethod ({ cls := "SurveyStoreModel", name := "blocks", desc := "(I)I" } : Jvm.MethodName)) ∈ zTW := zin4 (List.mem_of_getElem? (i := 198) rfl)
theorem q919 : (Jvm.Cond.selects "SurveyStoreModel" ({ cls := "SurveyStoreModel", name := "blocks", desc := "(I)I" } : Jvm.MethodName) ({ cls := "SurveyStoreModel", name := "blocks", desc := "(I)I" } : Jvm.MethodName)) ∈ zTW := zin4 (List.mem_of_getElem? (i := 199) rfl)
theorem q920 : (Jvm.Cond.code ({ cls := "SurveyStoreModel", name := "blocks", desc := "(I)I" } : Jvm.MethodName) prog_8_method_49_code (6 : Nat) (Option.some Jvm.ClassFile.FieldType.int)) ∈ zTW := zin4 (List.mem_of_getElem? (i := 200) rfl)
theorem q921 : (Jvm.Cond.methodLink "SurveyStoreModel" (181 : Nat) ({ cls := "SurveyStoreModel", name := "isNew", desc := "(I)Z" } : Jvm.MethodName)) ∈ zTW := zin4 (List.mem_of_getElem? (i := 201) rfl)
theorem q922 : (Jvm.Cond.privateMethod ({ cls := "SurveyStoreModel", name := "isNew", desc := "(I)Z" } : Jvm.MethodName)) ∈ zTW := zin4 (List.mem_of_getElem? (i := 202) rfl)
theorem q923 : (Jvm.Cond.instanceMethod ({ cls := "SurveyStoreModel", name := "isNew", desc := "(I)Z" } : Jvm.MethodName)) ∈ zTW := zin4 (List.mem_of_getElem? (i := 203) rfl)
theorem q924 : (Jvm.Cond.code ({ cls := "SurveyStoreModel", name := "isNew", desc := "(I)Z" } : Jvm.MethodName) prog_8_method_48_code (6 : Nat) (Option.some Jvm.ClassFile.FieldType.boolean)) ∈ zTW := zin4 (List.mem_of_getElem? (i := 204) rfl)
theorem q925 : (Jvm.Cond.methodLink "SurveyStoreModel" (178 : Nat) ({ cls := "SurveyStoreModel", name := "sameBlock", desc := "(II)Z" } : Jvm.MethodName)) ∈ zTW := zin4 (List.mem_of_getElem? (i := 205) rfl)
theorem q926 : (Jvm.Cond.privateMethod ({ cls := "SurveyStoreModel", name := "sameBlock", desc := "(II)Z" } : Jvm.MethodName)) ∈ zTW := zin4 (List.mem_of_getElem? (i := 206) rfl)
theorem q927 : (Jvm.Cond.instanceMethod ({ cls := "SurveyStoreModel", name := "sameBlock", desc := "(II)Z" } : Jvm.MethodName)) ∈ zTW := zin4 (List.mem_of_getElem? (i := 207) rfl)
theorem q928 : (Jvm.Cond.code ({ cls := "SurveyStoreModel", name := "sameBlock", desc := "(II)Z" } : Jvm.MethodName) prog_8_method_47_code (5 : Nat) (Option.some Jvm.ClassFile.FieldType.boolean)) ∈ zTW := zin4 (List.mem_of_getElem? (i := 208) rfl)
theorem q929 : (Jvm.Cond.sameMethod "java/lang/Throwable" "java/lang/Throwable" "fillInStackTrace" "(I)Ljava/lang/Throwable;") ∈ zTW := zin4 (List.mem_of_getElem? (i := 209) rfl)
theorem sl0 : Cond.selects (⟨"SurveyStore", "branchAt", "(I)LSurveyStore$Branch;"⟩ : MethodName).cls ⟨"SurveyStore", "branchAt", "(I)LSurveyStore$Branch;"⟩ ⟨"SurveyStore", "branchAt", "(I)LSurveyStore$Branch;"⟩ ∈ zTW := List.mem_append_left _ (List.mem_append_left _ (List.mem_of_getElem? (i := 0) rfl))
theorem sl1 : Cond.selects (⟨"SurveyStore", "cellAt", "(IIII)J"⟩ : MethodName).cls ⟨"SurveyStore", "cellAt", "(IIII)J"⟩ ⟨"SurveyStore", "cellAt", "(IIII)J"⟩ ∈ zTW := List.mem_append_left _ (List.mem_append_left _ (List.mem_of_getElem? (i := 1) rfl))
theorem sl2 : Cond.selects (⟨"SurveyStore", "cellsOf", "(I)[J"⟩ : MethodName).cls ⟨"SurveyStore", "cellsOf", "(I)[J"⟩ ⟨"SurveyStore", "cellsOf", "(I)[J"⟩ ∈ zTW := List.mem_append_left _ (List.mem_append_left _ (List.mem_of_getElem? (i := 2) rfl))
theorem sl3 : Cond.selects (⟨"SurveyStore", "commitAt", "(I)LSurveyStore$Commit;"⟩ : MethodName).cls ⟨"SurveyStore", "commitAt", "(I)LSurveyStore$Commit;"⟩ ⟨"SurveyStore", "commitAt", "(I)LSurveyStore$Commit;"⟩ ∈ zTW := List.mem_append_left _ (List.mem_append_left _ (List.mem_of_getElem? (i := 3) rfl))
theorem sl4 : Cond.selects (⟨"SurveyStore", "branchOfPlace", "(I)LSurveyStore$Branch;"⟩ : MethodName).cls ⟨"SurveyStore", "branchOfPlace", "(I)LSurveyStore$Branch;"⟩ ⟨"SurveyStore", "branchOfPlace", "(I)LSurveyStore$Branch;"⟩ ∈ zTW := List.mem_append_left _ (List.mem_append_left _ (List.mem_of_getElem? (i := 4) rfl))
theorem sl5 : Cond.selects (⟨"SurveyStore", "nearestOf", "(II)I"⟩ : MethodName).cls ⟨"SurveyStore", "nearestOf", "(II)I"⟩ ⟨"SurveyStore", "nearestOf", "(II)I"⟩ ∈ zTW := List.mem_append_left _ (List.mem_append_left _ (List.mem_of_getElem? (i := 5) rfl))
theorem sl6 : Cond.selects (⟨"SurveyStore", "ancestorsOf", "(I)I"⟩ : MethodName).cls ⟨"SurveyStore", "ancestorsOf", "(I)I"⟩ ⟨"SurveyStore", "ancestorsOf", "(I)I"⟩ ∈ zTW := List.mem_append_left _ (List.mem_append_left _ (List.mem_of_getElem? (i := 6) rfl))
theorem sl7 : Cond.selects (⟨"SurveyStore", "aboutCommit", "(LSurveyStore$Commit;II)I"⟩ : MethodName).cls ⟨"SurveyStore", "aboutCommit", "(LSurveyStore$Commit;II)I"⟩ ⟨"SurveyStore", "aboutCommit", "(LSurveyStore$Commit;II)I"⟩ ∈ zTW := List.mem_append_left _ (List.mem_append_left _ (List.mem_of_getElem? (i := 7) rfl))
theorem sl8 : Cond.selects (⟨"SurveyStore", "childrenOf", "(I)I"⟩ : MethodName).cls ⟨"SurveyStore", "childrenOf", "(I)I"⟩ ⟨"SurveyStore", "childrenOf", "(I)I"⟩ ∈ zTW := List.mem_append_left _ (List.mem_append_left _ (List.mem_of_getElem? (i := 8) rfl))
theorem sl9 : Cond.selects (⟨"SurveyStore", "aboutBranch", "(LSurveyStore$Branch;I)I"⟩ : MethodName).cls ⟨"SurveyStore", "aboutBranch", "(LSurveyStore$Branch;I)I"⟩ ⟨"SurveyStore", "aboutBranch", "(LSurveyStore$Branch;I)I"⟩ ∈ zTW := List.mem_append_left _ (List.mem_append_left _ (List.mem_of_getElem? (i := 9) rfl))
theorem sl10 : Cond.selects (⟨"SurveyStore", "isChanged", "(LSurveyStore$Branch;)Z"⟩ : MethodName).cls ⟨"SurveyStore", "isChanged", "(LSurveyStore$Branch;)Z"⟩ ⟨"SurveyStore", "isChanged", "(LSurveyStore$Branch;)Z"⟩ ∈ zTW := List.mem_append_left _ (List.mem_append_left _ (List.mem_of_getElem? (i := 10) rfl))
theorem sl11 : Cond.selects (⟨"java/lang/Throwable", "fillInStackTrace", "(I)Ljava/lang/Throwable;"⟩ : MethodName).cls ⟨"java/lang/Throwable", "fillInStackTrace", "(I)Ljava/lang/Throwable;"⟩ ⟨"java/lang/Throwable", "fillInStackTrace", "(I)Ljava/lang/Throwable;"⟩ ∈ zTW := List.mem_append_left _ (List.mem_append_left _ (List.mem_of_getElem? (i := 11) rfl))
theorem sl12 : Cond.selects (⟨"SurveyStore", "branchToEdit", "(II)LSurveyStore$Branch;"⟩ : MethodName).cls ⟨"SurveyStore", "branchToEdit", "(II)LSurveyStore$Branch;"⟩ ⟨"SurveyStore", "branchToEdit", "(II)LSurveyStore$Branch;"⟩ ∈ zTW := List.mem_append_left _ (List.mem_append_left _ (List.mem_of_getElem? (i := 12) rfl))
theorem sl13 : Cond.selects (⟨"SurveyStore", "isInside", "(III)Z"⟩ : MethodName).cls ⟨"SurveyStore", "isInside", "(III)Z"⟩ ⟨"SurveyStore", "isInside", "(III)Z"⟩ ∈ zTW := List.mem_append_left _ (List.mem_append_left _ (List.mem_of_getElem? (i := 13) rfl))
theorem sl14 : Cond.selects (⟨"SurveyStore", "isRightOf", "(IIII)Z"⟩ : MethodName).cls ⟨"SurveyStore", "isRightOf", "(IIII)Z"⟩ ⟨"SurveyStore", "isRightOf", "(IIII)Z"⟩ ∈ zTW := List.mem_append_left _ (List.mem_append_left _ (List.mem_of_getElem? (i := 14) rfl))
theorem sl15 : Cond.selects (⟨"SurveyStore", "mapped", "(I)I"⟩ : MethodName).cls ⟨"SurveyStore", "mapped", "(I)I"⟩ ⟨"SurveyStore", "mapped", "(I)I"⟩ ∈ zTW := List.mem_append_left _ (List.mem_append_left _ (List.mem_of_getElem? (i := 15) rfl))
theorem sl16 : Cond.selects (⟨"SurveyStore", "baseOf", "(III)LSurveyStore$BaseRow;"⟩ : MethodName).cls ⟨"SurveyStore", "baseOf", "(III)LSurveyStore$BaseRow;"⟩ ⟨"SurveyStore", "baseOf", "(III)LSurveyStore$BaseRow;"⟩ ∈ zTW := List.mem_append_left _ (List.mem_append_left _ (List.mem_of_getElem? (i := 16) rfl))
theorem sl17 : Cond.selects (⟨"SurveyStore", "baseRowAt", "(I)LSurveyStore$BaseRow;"⟩ : MethodName).cls ⟨"SurveyStore", "baseRowAt", "(I)LSurveyStore$BaseRow;"⟩ ⟨"SurveyStore", "baseRowAt", "(I)LSurveyStore$BaseRow;"⟩ ∈ zTW := List.mem_append_left _ (List.mem_append_left _ (List.mem_of_getElem? (i := 17) rfl))
theorem sl18 : Cond.selects (⟨"SurveyStore", "joinBase", "(LSurveyStore$BaseRow;III)V"⟩ : MethodName).cls ⟨"SurveyStore", "joinBase", "(LSurveyStore$BaseRow;III)V"⟩ ⟨"SurveyStore", "joinBase", "(LSurveyStore$BaseRow;III)V"⟩ ∈ zTW := List.mem_append_left _ (List.mem_append_left _ (List.mem_of_getElem? (i := 18) rfl))
theorem sl19 : Cond.selects (⟨"SurveyStore", "mergeCells", "([J[J[ILSurveyStore$Conflicts;)V"⟩ : MethodName).cls ⟨"SurveyStore", "mergeCells", "([J[J[ILSurveyStore$Conflicts;)V"⟩ ⟨"SurveyStore", "mergeCells", "([J[J[ILSurveyStore$Conflicts;)V"⟩ ∈ zTW := List.mem_append_left _ (List.mem_append_left _ (List.mem_of_getElem? (i := 19) rfl))
theorem sl20 : Cond.selects (⟨"SurveyStoreModel", "isCommit", "(I)Z"⟩ : MethodName).cls ⟨"SurveyStoreModel", "isCommit", "(I)Z"⟩ ⟨"SurveyStoreModel", "isCommit", "(I)Z"⟩ ∈ zTW := List.mem_append_left _ (List.mem_append_left _ (List.mem_of_getElem? (i := 20) rfl))
theorem sl21 : Cond.selects (⟨"SurveyStoreModel", "become", "(II)V"⟩ : MethodName).cls ⟨"SurveyStoreModel", "become", "(II)V"⟩ ⟨"SurveyStoreModel", "become", "(II)V"⟩ ∈ zTW := List.mem_append_left _ (List.mem_append_left _ (List.mem_of_getElem? (i := 21) rfl))
theorem sl22 : Cond.selects (⟨"SurveyStoreModel", "isBranch", "(I)Z"⟩ : MethodName).cls ⟨"SurveyStoreModel", "isBranch", "(I)Z"⟩ ⟨"SurveyStoreModel", "isBranch", "(I)Z"⟩ ∈ zTW := List.mem_append_left _ (List.mem_append_left _ (List.mem_of_getElem? (i := 22) rfl))
theorem sl23 : Cond.selects (⟨"SurveyStoreModel", "fails", "(Z)Z"⟩ : MethodName).cls ⟨"SurveyStoreModel", "fails", "(Z)Z"⟩ ⟨"SurveyStoreModel", "fails", "(Z)Z"⟩ ∈ zTW := List.mem_append_left _ (List.mem_append_left _ (List.mem_of_getElem? (i := 23) rfl))
theorem sl24 : Cond.selects (⟨"SurveyStoreModel", "give", "(III)V"⟩ : MethodName).cls ⟨"SurveyStoreModel", "give", "(III)V"⟩ ⟨"SurveyStoreModel", "give", "(III)V"⟩ ∈ zTW := List.mem_append_left _ (List.mem_append_left _ (List.mem_of_getElem? (i := 24) rfl))
theorem sl25 : Cond.selects (⟨"SurveyStoreModel", "meets", "(IIII)Z"⟩ : MethodName).cls ⟨"SurveyStoreModel", "meets", "(IIII)Z"⟩ ⟨"SurveyStoreModel", "meets", "(IIII)Z"⟩ ∈ zTW := List.mem_append_left _ (List.mem_append_left _ (List.mem_of_getElem? (i := 25) rfl))
theorem sl26 : Cond.selects (⟨"SurveyStoreModel", "isChanged", "(I)Z"⟩ : MethodName).cls ⟨"SurveyStoreModel", "isChanged", "(I)Z"⟩ ⟨"SurveyStoreModel", "isChanged", "(I)Z"⟩ ∈ zTW := List.mem_append_left _ (List.mem_append_left _ (List.mem_of_getElem? (i := 26) rfl))
theorem sl27 : Cond.selects (⟨"SurveyStoreModel", "unsettled", "(I)I"⟩ : MethodName).cls ⟨"SurveyStoreModel", "unsettled", "(I)I"⟩ ⟨"SurveyStoreModel", "unsettled", "(I)I"⟩ ∈ zTW := List.mem_append_left _ (List.mem_append_left _ (List.mem_of_getElem? (i := 27) rfl))
theorem sl28 : Cond.selects (⟨"SurveyStoreModel", "ancestors", "(I)I"⟩ : MethodName).cls ⟨"SurveyStoreModel", "ancestors", "(I)I"⟩ ⟨"SurveyStoreModel", "ancestors", "(I)I"⟩ ∈ zTW := List.mem_append_left _ (List.mem_append_left _ (List.mem_of_getElem? (i := 28) rfl))
theorem sl29 : Cond.selects (⟨"SurveyStoreModel", "base", "(II)V"⟩ : MethodName).cls ⟨"SurveyStoreModel", "base", "(II)V"⟩ ⟨"SurveyStoreModel", "base", "(II)V"⟩ ∈ zTW := List.mem_append_left _ (List.mem_append_left _ (List.mem_of_getElem? (i := 29) rfl))
theorem sl30 : Cond.selects (⟨"SurveyStoreModel", "beginBase", "(III)V"⟩ : MethodName).cls ⟨"SurveyStoreModel", "beginBase", "(III)V"⟩ ⟨"SurveyStoreModel", "beginBase", "(III)V"⟩ ∈ zTW := List.mem_append_left _ (List.mem_append_left _ (List.mem_of_getElem? (i := 30) rfl))
theorem sl31 : Cond.selects (⟨"SurveyStoreModel", "nearestOf", "(II)I"⟩ : MethodName).cls ⟨"SurveyStoreModel", "nearestOf", "(II)I"⟩ ⟨"SurveyStoreModel", "nearestOf", "(II)I"⟩ ∈ zTW := List.mem_append_left _ (List.mem_append_left _ (List.mem_of_getElem? (i := 31) rfl))
theorem sl32 : Cond.selects (⟨"SurveyStoreModel", "joinBase", "(II)V"⟩ : MethodName).cls ⟨"SurveyStoreModel", "joinBase", "(II)V"⟩ ⟨"SurveyStoreModel", "joinBase", "(II)V"⟩ ∈ zTW := List.mem_append_left _ (List.mem_append_left _ (List.mem_of_getElem? (i := 32) rfl))
theorem sl33 : Cond.selects (⟨"SurveyStoreModel", "madeIn", "(I)I"⟩ : MethodName).cls ⟨"SurveyStoreModel", "madeIn", "(I)I"⟩ ⟨"SurveyStoreModel", "madeIn", "(I)I"⟩ ∈ zTW := List.mem_append_left _ (List.mem_append_left _ (List.mem_of_getElem? (i := 33) rfl))
theorem sl34 : Cond.selects (⟨"SurveyStoreModel", "note", "(IIIII)V"⟩ : MethodName).cls ⟨"SurveyStoreModel", "note", "(IIIII)V"⟩ ⟨"SurveyStoreModel", "note", "(IIIII)V"⟩ ∈ zTW := List.mem_append_left _ (List.mem_append_left _ (List.mem_of_getElem? (i := 34) rfl))
theorem sl35 : Cond.selects (⟨"SurveyStoreModel", "isConflict", "(II)Z"⟩ : MethodName).cls ⟨"SurveyStoreModel", "isConflict", "(II)Z"⟩ ⟨"SurveyStoreModel", "isConflict", "(II)Z"⟩ ∈ zTW := List.mem_append_left _ (List.mem_append_left _ (List.mem_of_getElem? (i := 35) rfl))
theorem sl36 : Cond.selects (⟨"SurveyStoreModel", "isCell", "(IIII)Z"⟩ : MethodName).cls ⟨"SurveyStoreModel", "isCell", "(IIII)Z"⟩ ⟨"SurveyStoreModel", "isCell", "(IIII)Z"⟩ ∈ zTW := List.mem_append_left _ (List.mem_append_left _ (List.mem_of_getElem? (i := 36) rfl))
theorem sl37 : Cond.selects (⟨"SurveyStoreModel", "isPlace", "(I)Z"⟩ : MethodName).cls ⟨"SurveyStoreModel", "isPlace", "(I)Z"⟩ ⟨"SurveyStoreModel", "isPlace", "(I)Z"⟩ ∈ zTW := List.mem_append_left _ (List.mem_append_left _ (List.mem_of_getElem? (i := 37) rfl))
theorem sl38 : Cond.selects (⟨"SurveyStoreModel", "isNew", "(I)Z"⟩ : MethodName).cls ⟨"SurveyStoreModel", "isNew", "(I)Z"⟩ ⟨"SurveyStoreModel", "isNew", "(I)Z"⟩ ∈ zTW := List.mem_append_left _ (List.mem_append_left _ (List.mem_of_getElem? (i := 38) rfl))
theorem sl39 : Cond.selects (⟨"SurveyStoreModel", "sameBlock", "(II)Z"⟩ : MethodName).cls ⟨"SurveyStoreModel", "sameBlock", "(II)Z"⟩ ⟨"SurveyStoreModel", "sameBlock", "(II)Z"⟩ ∈ zTW := List.mem_append_left _ (List.mem_append_left _ (List.mem_of_getElem? (i := 39) rfl))
end
section
def zF_S : u_T := fun k => match k with
  | 0 => ("SurveyStore", "kinds", "[I", true)
  | 1 => ("SurveyStore", "commits", "[LSurveyStore$Commit;", true)
  | 2 => ("SurveyStore", "made", "I", false)
  | 3 => ("SurveyStore", "branches", "[LSurveyStore$Branch;", true)
  | 4 => ("SurveyStore", "regionX", "I", false)
  | 5 => ("SurveyStore", "regionY", "I", false)
  | 6 => ("SurveyStore", "regionWidth", "I", false)
  | 7 => ("SurveyStore", "regionHeight", "I", false)
  | 8 => ("SurveyStore", "cornerX", "[I", true)
  | 9 => ("SurveyStore", "cornerY", "[I", true)
  | 10 => ("SurveyStore", "entryFrom", "[I", true)
  | 11 => ("SurveyStore", "entryTo", "[I", true)
  | 12 => ("SurveyStore", "baseRows", "[LSurveyStore$BaseRow;", true)
  | _ => ("SurveyStore", "blockTable", "LSurveyStore$BlockTable;", false)
def zt_S : Nat → FieldType := fun k => match k with
  | 0 => (.array .int)
  | 1 => (.array (.object "SurveyStore$Commit"))
  | 2 => .int
  | 3 => (.array (.object "SurveyStore$Branch"))
  | 4 => .int
  | 5 => .int
  | 6 => .int
  | 7 => .int
  | 8 => (.array .int)
  | 9 => (.array .int)
  | 10 => (.array .int)
  | 11 => (.array .int)
  | 12 => (.array (.object "SurveyStore$BaseRow"))
  | _ => (.object "SurveyStore$BlockTable")
def zF_C : u_T := fun k => match k with
  | 0 => ("SurveyStore$Commit", "firstParent", "I", true)
  | 1 => ("SurveyStore$Commit", "secondParent", "I", true)
  | 2 => ("SurveyStore$Commit", "ancestors", "I", true)
  | _ => ("SurveyStore$Commit", "cells", "[J", true)
def zt_C : Nat → FieldType := fun k => match k with
  | 0 => .int
  | 1 => .int
  | 2 => .int
  | _ => (.array .long)
def zF_B : u_T := fun k => match k with
  | 0 => ("SurveyStore$Branch", "cells", "[J", true)
  | 1 => ("SurveyStore$Branch", "there", "Z", false)
  | 2 => ("SurveyStore$Branch", "head", "I", false)
  | 3 => ("SurveyStore$Branch", "merging", "I", false)
  | _ => ("SurveyStore$Branch", "conflicts", "LSurveyStore$Conflicts;", false)
def zt_B : Nat → FieldType := fun k => match k with
  | 0 => (.array .long)
  | 1 => .boolean
  | 2 => .int
  | 3 => .int
  | _ => (.object "SurveyStore$Conflicts")
def zF_K : u_T := fun k => match k with
  | 0 => ("SurveyStore$Conflicts", "indices", "[I", true)
  | 1 => ("SurveyStore$Conflicts", "mine", "[I", true)
  | 2 => ("SurveyStore$Conflicts", "others", "[I", true)
  | 3 => ("SurveyStore$Conflicts", "bases", "[I", true)
  | 4 => ("SurveyStore$Conflicts", "settled", "[Z", true)
  | 5 => ("SurveyStore$Conflicts", "count", "I", false)
  | _ => ("SurveyStore$Conflicts", "unsettled", "I", false)
def zt_K : Nat → FieldType := fun k => match k with
  | 0 => (.array .int)
  | 1 => (.array .int)
  | 2 => (.array .int)
  | 3 => (.array .int)
  | 4 => (.array .boolean)
  | 5 => .int
  | _ => .int
def zF_R : u_T := fun k => match k with
  | _ => ("SurveyStore$BaseRow", "values", "[I", true)
def zt_R : Nat → FieldType := fun k => match k with
  | _ => (.array .int)
def zF_T : u_T := fun k => match k with
  | 0 => ("SurveyStore$BlockTable", "values", "[I", true)
  | 1 => ("SurveyStore$BlockTable", "slots", "[I", true)
  | _ => ("SurveyStore$BlockTable", "count", "I", false)
def zt_T : Nat → FieldType := fun k => match k with
  | 0 => (.array .int)
  | 1 => (.array .int)
  | _ => .int
def zF_M : u_T := fun k => match k with
  | 0 => ("SurveyStoreModel", "code", "I", false)
  | 1 => ("SurveyStoreModel", "value", "[I", true)
  | 2 => ("SurveyStoreModel", "origin", "[I", true)
  | 3 => ("SurveyStoreModel", "kinds", "[I", true)
  | 4 => ("SurveyStoreModel", "parent", "[I", true)
  | 5 => ("SurveyStoreModel", "other", "[I", true)
  | 6 => ("SurveyStoreModel", "commits", "I", false)
  | 7 => ("SurveyStoreModel", "there", "[Z", true)
  | 8 => ("SurveyStoreModel", "head", "[I", true)
  | 9 => ("SurveyStoreModel", "merging", "[I", true)
  | 10 => ("SurveyStoreModel", "conflictAt", "[I", true)
  | 11 => ("SurveyStoreModel", "conflictMine", "[I", true)
  | 12 => ("SurveyStoreModel", "conflictOther", "[I", true)
  | 13 => ("SurveyStoreModel", "conflictBase", "[I", true)
  | 14 => ("SurveyStoreModel", "conflicts", "[I", true)
  | 15 => ("SurveyStoreModel", "settled", "[Z", true)
  | 16 => ("SurveyStoreModel", "left", "I", false)
  | 17 => ("SurveyStoreModel", "top", "I", false)
  | 18 => ("SurveyStoreModel", "wide", "I", false)
  | 19 => ("SurveyStoreModel", "high", "I", false)
  | 20 => ("SurveyStoreModel", "cornerX", "[I", true)
  | 21 => ("SurveyStoreModel", "cornerY", "[I", true)
  | 22 => ("SurveyStoreModel", "from", "[I", true)
  | 23 => ("SurveyStoreModel", "to", "[I", true)
  | 24 => ("SurveyStoreModel", "wanted", "[I", true)
  | 25 => ("SurveyStoreModel", "done", "[I", true)
  | 26 => ("SurveyStoreModel", "rows", "[I", true)
  | _ => ("SurveyStoreModel", "foundAt", "[I", true)
def zt_M : Nat → FieldType := fun k => match k with
  | 0 => .int
  | 1 => (.array .int)
  | 2 => (.array .int)
  | 3 => (.array .int)
  | 4 => (.array .int)
  | 5 => (.array .int)
  | 6 => .int
  | 7 => (.array .boolean)
  | 8 => (.array .int)
  | 9 => (.array .int)
  | 10 => (.array .int)
  | 11 => (.array .int)
  | 12 => (.array .int)
  | 13 => (.array .int)
  | 14 => (.array .int)
  | 15 => (.array .boolean)
  | 16 => .int
  | 17 => .int
  | 18 => .int
  | 19 => .int
  | 20 => (.array .int)
  | 21 => (.array .int)
  | 22 => (.array .int)
  | 23 => (.array .int)
  | 24 => (.array .int)
  | 25 => (.array .int)
  | 26 => (.array .int)
  | _ => (.array .int)
def zcl : List vw_C := [("SurveyStore", zF_S, 14), ("SurveyStore$Commit", zF_C, 4), ("SurveyStore$Branch", zF_B, 5), ("SurveyStore$Conflicts", zF_K, 7), ("SurveyStore$BaseRow", zF_R, 1), ("SurveyStore$BlockTable", zF_T, 3), ("SurveyStoreModel", zF_M, 28)]
def zty (tc : Nat → ClassId) : List (ClassId × FieldType) := [(tc 0, .int), (tc 1, .boolean), (tc 2, .long), (tc 3, .object "SurveyStore$Commit"), (tc 4, .object "SurveyStore$Branch"), (tc 5, .object "SurveyStore$BaseRow")]
abbrev b_S_init : ByteArray := prog_1_method_1_code
def y_S_init : MethodName := ⟨"SurveyStore", "<init>", "()V"⟩
abbrev b_A_fillJ : ByteArray := prog_17_method_101_code
def y_A_fillJ : MethodName := ⟨"java/util/Arrays", "fill", "([JJ)V"⟩
abbrev b_C_init : ByteArray := prog_5_method_1_code
def y_C_init : MethodName := ⟨"SurveyStore$Commit", "<init>", "(III[J)V"⟩
abbrev b_B_init : ByteArray := prog_4_method_1_code
def y_B_init : MethodName := ⟨"SurveyStore$Branch", "<init>", "()V"⟩
abbrev b_B_startAt : ByteArray := prog_4_method_2_code
def y_B_startAt : MethodName := ⟨"SurveyStore$Branch", "startAt", "(I[J)V"⟩
abbrev b_B_restAt : ByteArray := prog_4_method_3_code
def y_B_restAt : MethodName := ⟨"SurveyStore$Branch", "restAt", "(I)V"⟩
abbrev b_K_forget : ByteArray := prog_6_method_2_code
def y_K_forget : MethodName := ⟨"SurveyStore$Conflicts", "forget", "()V"⟩
abbrev b_A_fillI : ByteArray := prog_17_method_103_code
def y_A_fillI : MethodName := ⟨"java/util/Arrays", "fill", "([II)V"⟩
abbrev b_S_kind : ByteArray := prog_1_method_2_code
def y_S_kind : MethodName := ⟨"SurveyStore", "kind", "(II)Z"⟩
abbrev b_S_isLayer : ByteArray := prog_1_method_25_code
def y_S_isLayer : MethodName := ⟨"SurveyStore", "isLayer", "(I)Z"⟩
abbrev b_S_drop : ByteArray := prog_1_method_4_code
def y_S_drop : MethodName := ⟨"SurveyStore", "drop", "(I)Z"⟩
abbrev b_S_branchAt : ByteArray := prog_1_method_42_code
def y_S_branchAt : MethodName := ⟨"SurveyStore", "branchAt", "(I)LSurveyStore$Branch;"⟩
abbrev b_S_region : ByteArray := prog_1_method_5_code
def y_S_region : MethodName := ⟨"SurveyStore", "region", "(IIII)Z"⟩
abbrev b_S_fits : ByteArray := prog_1_method_29_code
def y_S_fits : MethodName := ⟨"SurveyStore", "fits", "(II)Z"⟩
abbrev b_S_corner : ByteArray := prog_1_method_7_code
def y_S_corner : MethodName := ⟨"SurveyStore", "corner", "(III)Z"⟩
abbrev b_S_isPoint : ByteArray := prog_1_method_27_code
def y_S_isPoint : MethodName := ⟨"SurveyStore", "isPoint", "(I)Z"⟩
abbrev b_S_entry : ByteArray := prog_1_method_10_code
def y_S_entry : MethodName := ⟨"SurveyStore", "entry", "(III)Z"⟩
abbrev b_S_isValue : ByteArray := prog_1_method_28_code
def y_S_isValue : MethodName := ⟨"SurveyStore", "isValue", "(I)Z"⟩
abbrev b_S_conflict : ByteArray := prog_1_method_15_code
def y_S_conflict : MethodName := ⟨"SurveyStore", "conflict", "(III)I"⟩
abbrev b_K_tell : ByteArray := prog_6_method_6_code
def y_K_tell : MethodName := ⟨"SurveyStore$Conflicts", "tell", "(II)I"⟩
abbrev b_K_has : ByteArray := prog_6_method_4_code
def y_K_has : MethodName := ⟨"SurveyStore$Conflicts", "has", "(I)Z"⟩
abbrev b_S_layerOf : ByteArray := prog_1_method_32_code
def y_S_layerOf : MethodName := ⟨"SurveyStore", "layerOf", "(I)I"⟩
abbrev b_S_xOf : ByteArray := prog_1_method_34_code
def y_S_xOf : MethodName := ⟨"SurveyStore", "xOf", "(I)I"⟩
abbrev b_S_yOf : ByteArray := prog_1_method_33_code
def y_S_yOf : MethodName := ⟨"SurveyStore", "yOf", "(I)I"⟩
abbrev b_S_value : ByteArray := prog_1_method_17_code
def y_S_value : MethodName := ⟨"SurveyStore", "value", "(IIII)I"⟩
abbrev b_S_cellAt : ByteArray := prog_1_method_45_code
def y_S_cellAt : MethodName := ⟨"SurveyStore", "cellAt", "(IIII)J"⟩
abbrev b_S_cellsOf : ByteArray := prog_1_method_44_code
def y_S_cellsOf : MethodName := ⟨"SurveyStore", "cellsOf", "(I)[J"⟩
abbrev b_S_commitAt : ByteArray := prog_1_method_41_code
def y_S_commitAt : MethodName := ⟨"SurveyStore", "commitAt", "(I)LSurveyStore$Commit;"⟩
abbrev b_S_branchOfPlace : ByteArray := prog_1_method_43_code
def y_S_branchOfPlace : MethodName := ⟨"SurveyStore", "branchOfPlace", "(I)LSurveyStore$Branch;"⟩
abbrev b_S_isCoordinate : ByteArray := prog_1_method_26_code
def y_S_isCoordinate : MethodName := ⟨"SurveyStore", "isCoordinate", "(I)Z"⟩
abbrev b_S_indexOf : ByteArray := prog_1_method_31_code
def y_S_indexOf : MethodName := ⟨"SurveyStore", "indexOf", "(III)I"⟩
abbrev b_S_valueOf : ByteArray := prog_1_method_36_code
def y_S_valueOf : MethodName := ⟨"SurveyStore", "valueOf", "(J)I"⟩
abbrev b_S_origin : ByteArray := prog_1_method_18_code
def y_S_origin : MethodName := ⟨"SurveyStore", "origin", "(IIIII)I"⟩
abbrev b_S_originCommitOf : ByteArray := prog_1_method_39_code
def y_S_originCommitOf : MethodName := ⟨"SurveyStore", "originCommitOf", "(J)I"⟩
abbrev b_S_originIndexOf : ByteArray := prog_1_method_38_code
def y_S_originIndexOf : MethodName := ⟨"SurveyStore", "originIndexOf", "(J)I"⟩
abbrev b_S_differing : ByteArray := prog_1_method_20_code
def y_S_differing : MethodName := ⟨"SurveyStore", "differing", "(III)I"⟩
abbrev b_S_differs : ByteArray := prog_1_method_21_code
def y_S_differs : MethodName := ⟨"SurveyStore", "differs", "(IIII)I"⟩
abbrev b_S_nearest : ByteArray := prog_1_method_22_code
def y_S_nearest : MethodName := ⟨"SurveyStore", "nearest", "(III)I"⟩
abbrev b_S_nearestOf : ByteArray := prog_1_method_56_code
def y_S_nearestOf : MethodName := ⟨"SurveyStore", "nearestOf", "(II)I"⟩
abbrev b_S_contains : ByteArray := prog_1_method_30_code
def y_S_contains : MethodName := ⟨"SurveyStore", "contains", "(II)Z"⟩
abbrev b_S_ancestorsOf : ByteArray := prog_1_method_55_code
def y_S_ancestorsOf : MethodName := ⟨"SurveyStore", "ancestorsOf", "(I)I"⟩
abbrev b_S_about : ByteArray := prog_1_method_23_code
def y_S_about : MethodName := ⟨"SurveyStore", "about", "(II)I"⟩
abbrev b_S_aboutCommit : ByteArray := prog_1_method_62_code
def y_S_aboutCommit : MethodName := ⟨"SurveyStore", "aboutCommit", "(LSurveyStore$Commit;II)I"⟩
abbrev b_S_childrenOf : ByteArray := prog_1_method_63_code
def y_S_childrenOf : MethodName := ⟨"SurveyStore", "childrenOf", "(I)I"⟩
abbrev b_C_hasParent : ByteArray := prog_5_method_2_code
def y_C_hasParent : MethodName := ⟨"SurveyStore$Commit", "hasParent", "(I)Z"⟩
abbrev b_S_aboutBranch : ByteArray := prog_1_method_64_code
def y_S_aboutBranch : MethodName := ⟨"SurveyStore", "aboutBranch", "(LSurveyStore$Branch;I)I"⟩
abbrev b_S_isChanged : ByteArray := prog_1_method_53_code
def y_S_isChanged : MethodName := ⟨"SurveyStore", "isChanged", "(LSurveyStore$Branch;)Z"⟩
abbrev b_S_blocks : ByteArray := prog_1_method_24_code
def y_S_blocks : MethodName := ⟨"SurveyStore", "blocks", "(I)I"⟩
abbrev b_T_init : ByteArray := prog_3_method_1_code
def y_T_init : MethodName := ⟨"SurveyStore$BlockTable", "<init>", "()V"⟩
abbrev b_T_forget : ByteArray := prog_3_method_2_code
def y_T_forget : MethodName := ⟨"SurveyStore$BlockTable", "forget", "()V"⟩
abbrev b_T_addAll : ByteArray := prog_3_method_3_code
def y_T_addAll : MethodName := ⟨"SurveyStore$BlockTable", "addAll", "([JI)V"⟩
abbrev b_T_read : ByteArray := prog_3_method_4_code
def y_T_read : MethodName := ⟨"SurveyStore$BlockTable", "read", "([JI)Z"⟩
abbrev b_T_keepIfNew : ByteArray := prog_3_method_5_code
def y_T_keepIfNew : MethodName := ⟨"SurveyStore$BlockTable", "keepIfNew", "()V"⟩
abbrev b_T_hash : ByteArray := prog_3_method_6_code
def y_T_hash : MethodName := ⟨"SurveyStore$BlockTable", "hash", "(I)I"⟩
abbrev b_T_isSame : ByteArray := prog_3_method_7_code
def y_T_isSame : MethodName := ⟨"SurveyStore$BlockTable", "isSame", "(II)Z"⟩
abbrev b_L_branch : ByteArray := method_3_code
def y_L_branch : MethodName := ⟨"SurveyStoreLaw", "branch", "(LSurveyStore;II)I"⟩
abbrev b_S_branch : ByteArray := prog_1_method_3_code
def y_S_branch : MethodName := ⟨"SurveyStore", "branch", "(II)V"⟩
abbrev b_L_paint : ByteArray := method_4_code
def y_L_paint : MethodName := ⟨"SurveyStoreLaw", "paint", "(LSurveyStore;III)I"⟩
abbrev b_S_paint : ByteArray := prog_1_method_6_code
def y_S_paint : MethodName := ⟨"SurveyStore", "paint", "(III)V"⟩
abbrev b_S_branchToEdit : ByteArray := prog_1_method_46_code
def y_S_branchToEdit : MethodName := ⟨"SurveyStore", "branchToEdit", "(II)LSurveyStore$Branch;"⟩
abbrev b_S_refuseUnlessValue : ByteArray := prog_1_method_47_code
def y_S_refuseUnlessValue : MethodName := ⟨"SurveyStore", "refuseUnlessValue", "(I)V"⟩
abbrev b_B_set : ByteArray := prog_4_method_6_code
def y_B_set : MethodName := ⟨"SurveyStore$Branch", "set", "(II)V"⟩
abbrev b_S_originOf : ByteArray := prog_1_method_37_code
def y_S_originOf : MethodName := ⟨"SurveyStore", "originOf", "(II)I"⟩
abbrev b_S_cellOf : ByteArray := prog_1_method_35_code
def y_S_cellOf : MethodName := ⟨"SurveyStore", "cellOf", "(II)J"⟩
abbrev b_L_polygon : ByteArray := method_5_code
def y_L_polygon : MethodName := ⟨"SurveyStoreLaw", "polygon", "(LSurveyStore;IIII)I"⟩
abbrev b_S_polygon : ByteArray := prog_1_method_8_code
def y_S_polygon : MethodName := ⟨"SurveyStore", "polygon", "(IIII)V"⟩
abbrev b_S_isInside : ByteArray := prog_1_method_49_code
def y_S_isInside : MethodName := ⟨"SurveyStore", "isInside", "(III)Z"⟩
abbrev b_S_isRightOf : ByteArray := prog_1_method_50_code
def y_S_isRightOf : MethodName := ⟨"SurveyStore", "isRightOf", "(IIII)Z"⟩
abbrev b_L_copy : ByteArray := method_6_code
def y_L_copy : MethodName := ⟨"SurveyStoreLaw", "copy", "(LSurveyStore;IIIIII)I"⟩
abbrev b_S_copy : ByteArray := prog_1_method_9_code
def y_S_copy : MethodName := ⟨"SurveyStore", "copy", "(IIIIII)V"⟩
abbrev b_L_map : ByteArray := method_7_code
def y_L_map : MethodName := ⟨"SurveyStoreLaw", "map", "(LSurveyStore;II)I"⟩
abbrev b_S_map : ByteArray := prog_1_method_11_code
def y_S_map : MethodName := ⟨"SurveyStore", "map", "(II)V"⟩
abbrev b_S_mapped : ByteArray := prog_1_method_51_code
def y_S_mapped : MethodName := ⟨"SurveyStore", "mapped", "(I)I"⟩
abbrev b_S_setIfOther : ByteArray := prog_1_method_48_code
def y_S_setIfOther : MethodName := ⟨"SurveyStore", "setIfOther", "(LSurveyStore$Branch;II)V"⟩
abbrev b_L_combine : ByteArray := method_8_code
def y_L_combine : MethodName := ⟨"SurveyStoreLaw", "combine", "(LSurveyStore;IIII)I"⟩
abbrev b_S_combine : ByteArray := prog_1_method_12_code
def y_S_combine : MethodName := ⟨"SurveyStore", "combine", "(IIII)V"⟩
abbrev b_S_combined : ByteArray := prog_1_method_52_code
def y_S_combined : MethodName := ⟨"SurveyStore", "combined", "(III)I"⟩
abbrev b_L_commit : ByteArray := method_9_code
def y_L_commit : MethodName := ⟨"SurveyStoreLaw", "commit", "(LSurveyStore;I[J)I"⟩
abbrev b_S_commit : ByteArray := prog_1_method_13_code
def y_S_commit : MethodName := ⟨"SurveyStore", "commit", "(I)I"⟩
abbrev b_B_hasUnsettled : ByteArray := prog_4_method_5_code
def y_B_hasUnsettled : MethodName := ⟨"SurveyStore$Branch", "hasUnsettled", "()Z"⟩
abbrev b_S_claimPending : ByteArray := prog_1_method_54_code
def y_S_claimPending : MethodName := ⟨"SurveyStore", "claimPending", "([JI)V"⟩
abbrev b_L_merge : ByteArray := method_10_code
def y_L_merge : MethodName := ⟨"SurveyStoreLaw", "merge", "(LSurveyStore;II[J)I"⟩
abbrev b_S_merge : ByteArray := prog_1_method_14_code
def y_S_merge : MethodName := ⟨"SurveyStore", "merge", "(II)I"⟩
abbrev b_S_baseOf : ByteArray := prog_1_method_57_code
def y_S_baseOf : MethodName := ⟨"SurveyStore", "baseOf", "(III)LSurveyStore$BaseRow;"⟩
abbrev b_S_baseRowAt : ByteArray := prog_1_method_59_code
def y_S_baseRowAt : MethodName := ⟨"SurveyStore", "baseRowAt", "(I)LSurveyStore$BaseRow;"⟩
abbrev b_R_init : ByteArray := prog_2_method_1_code
def y_R_init : MethodName := ⟨"SurveyStore$BaseRow", "<init>", "()V"⟩
abbrev b_S_joinBase : ByteArray := prog_1_method_58_code
def y_S_joinBase : MethodName := ⟨"SurveyStore", "joinBase", "(LSurveyStore$BaseRow;III)V"⟩
abbrev b_R_take : ByteArray := prog_2_method_2_code
def y_R_take : MethodName := ⟨"SurveyStore$BaseRow", "take", "([J)V"⟩
abbrev b_R_mergeWith : ByteArray := prog_2_method_3_code
def y_R_mergeWith : MethodName := ⟨"SurveyStore$BaseRow", "mergeWith", "([J[I)V"⟩
abbrev b_S_isConflict : ByteArray := prog_1_method_40_code
def y_S_isConflict : MethodName := ⟨"SurveyStore", "isConflict", "(III)Z"⟩
abbrev b_B_freshConflicts : ByteArray := prog_4_method_4_code
def y_B_freshConflicts : MethodName := ⟨"SurveyStore$Branch", "freshConflicts", "()LSurveyStore$Conflicts;"⟩
abbrev b_K_init : ByteArray := prog_6_method_1_code
def y_K_init : MethodName := ⟨"SurveyStore$Conflicts", "<init>", "()V"⟩
abbrev b_S_mergeCells : ByteArray := prog_1_method_60_code
def y_S_mergeCells : MethodName := ⟨"SurveyStore", "mergeCells", "([J[J[ILSurveyStore$Conflicts;)V"⟩
abbrev b_K_add : ByteArray := prog_6_method_3_code
def y_K_add : MethodName := ⟨"SurveyStore$Conflicts", "add", "(IIII)V"⟩
abbrev b_S_otherWins : ByteArray := prog_1_method_61_code
def y_S_otherWins : MethodName := ⟨"SurveyStore", "otherWins", "(IJJ)Z"⟩
abbrev b_L_settle : ByteArray := method_11_code
def y_L_settle : MethodName := ⟨"SurveyStoreLaw", "settle", "(LSurveyStore;III[J)I"⟩
abbrev b_S_settle : ByteArray := prog_1_method_16_code
def y_S_settle : MethodName := ⟨"SurveyStore", "settle", "(III)I"⟩
abbrev b_K_markSettled : ByteArray := prog_6_method_5_code
def y_K_markSettled : MethodName := ⟨"SurveyStore$Conflicts", "markSettled", "(I)V"⟩
abbrev b_L_total : ByteArray := method_12_code
def y_L_total : MethodName := ⟨"SurveyStoreLaw", "total", "(LSurveyStore;III[J)I"⟩
abbrev b_S_total : ByteArray := prog_1_method_19_code
def y_S_total : MethodName := ⟨"SurveyStore", "total", "(III)I"⟩
abbrev b_M_init : ByteArray := prog_8_method_1_code
def y_M_init : MethodName := ⟨"SurveyStoreModel", "<init>", "()V"⟩
abbrev b_M_thrown : ByteArray := prog_8_method_2_code
def y_M_thrown : MethodName := ⟨"SurveyStoreModel", "thrown", "()I"⟩
abbrev b_M_kind : ByteArray := prog_8_method_10_code
def y_M_kind : MethodName := ⟨"SurveyStoreModel", "kind", "(II)Z"⟩
abbrev b_M_isLayer : ByteArray := prog_8_method_4_code
def y_M_isLayer : MethodName := ⟨"SurveyStoreModel", "isLayer", "(I)Z"⟩
abbrev b_M_branch : ByteArray := prog_8_method_12_code
def y_M_branch : MethodName := ⟨"SurveyStoreModel", "branch", "(II)V"⟩
abbrev b_M_isCommit : ByteArray := prog_8_method_6_code
def y_M_isCommit : MethodName := ⟨"SurveyStoreModel", "isCommit", "(I)Z"⟩
abbrev b_M_become : ByteArray := prog_8_method_11_code
def y_M_become : MethodName := ⟨"SurveyStoreModel", "become", "(II)V"⟩
abbrev b_M_drop : ByteArray := prog_8_method_13_code
def y_M_drop : MethodName := ⟨"SurveyStoreModel", "drop", "(I)Z"⟩
abbrev b_M_isBranch : ByteArray := prog_8_method_5_code
def y_M_isBranch : MethodName := ⟨"SurveyStoreModel", "isBranch", "(I)Z"⟩
abbrev b_M_region : ByteArray := prog_8_method_14_code
def y_M_region : MethodName := ⟨"SurveyStoreModel", "region", "(IIII)Z"⟩
abbrev b_M_paint : ByteArray := prog_8_method_16_code
def y_M_paint : MethodName := ⟨"SurveyStoreModel", "paint", "(III)V"⟩
abbrev b_M_isValue : ByteArray := prog_8_method_8_code
def y_M_isValue : MethodName := ⟨"SurveyStoreModel", "isValue", "(I)Z"⟩
abbrev b_M_fails : ByteArray := prog_8_method_3_code
def y_M_fails : MethodName := ⟨"SurveyStoreModel", "fails", "(Z)Z"⟩
abbrev b_M_cellOf : ByteArray := prog_8_method_9_code
def y_M_cellOf : MethodName := ⟨"SurveyStoreModel", "cellOf", "(III)I"⟩
abbrev b_M_give : ByteArray := prog_8_method_15_code
def y_M_give : MethodName := ⟨"SurveyStoreModel", "give", "(III)V"⟩
abbrev b_M_corner : ByteArray := prog_8_method_17_code
def y_M_corner : MethodName := ⟨"SurveyStoreModel", "corner", "(III)Z"⟩
abbrev b_M_polygon : ByteArray := prog_8_method_18_code
def y_M_polygon : MethodName := ⟨"SurveyStoreModel", "polygon", "(IIII)V"⟩
abbrev b_M_meets : ByteArray := prog_8_method_19_code
def y_M_meets : MethodName := ⟨"SurveyStoreModel", "meets", "(IIII)Z"⟩
abbrev b_M_copy : ByteArray := prog_8_method_20_code
def y_M_copy : MethodName := ⟨"SurveyStoreModel", "copy", "(IIIIII)V"⟩
abbrev b_M_entry : ByteArray := prog_8_method_21_code
def y_M_entry : MethodName := ⟨"SurveyStoreModel", "entry", "(III)Z"⟩
abbrev b_M_map : ByteArray := prog_8_method_22_code
def y_M_map : MethodName := ⟨"SurveyStoreModel", "map", "(II)V"⟩
abbrev b_M_combine : ByteArray := prog_8_method_23_code
def y_M_combine : MethodName := ⟨"SurveyStoreModel", "combine", "(IIII)V"⟩
abbrev b_M_commit : ByteArray := prog_8_method_26_code
def y_M_commit : MethodName := ⟨"SurveyStoreModel", "commit", "(I)I"⟩
abbrev b_M_isChanged : ByteArray := prog_8_method_24_code
def y_M_isChanged : MethodName := ⟨"SurveyStoreModel", "isChanged", "(I)Z"⟩
abbrev b_M_unsettled : ByteArray := prog_8_method_25_code
def y_M_unsettled : MethodName := ⟨"SurveyStoreModel", "unsettled", "(I)I"⟩
abbrev b_M_merge : ByteArray := prog_8_method_34_code
def y_M_merge : MethodName := ⟨"SurveyStoreModel", "merge", "(II)I"⟩
abbrev b_M_ancestors : ByteArray := prog_8_method_27_code
def y_M_ancestors : MethodName := ⟨"SurveyStoreModel", "ancestors", "(I)I"⟩
abbrev b_M_base : ByteArray := prog_8_method_32_code
def y_M_base : MethodName := ⟨"SurveyStoreModel", "base", "(II)V"⟩
abbrev b_M_beginBase : ByteArray := prog_8_method_29_code
def y_M_beginBase : MethodName := ⟨"SurveyStoreModel", "beginBase", "(III)V"⟩
abbrev b_M_nearestOf : ByteArray := prog_8_method_28_code
def y_M_nearestOf : MethodName := ⟨"SurveyStoreModel", "nearestOf", "(II)I"⟩
abbrev b_M_next : ByteArray := prog_8_method_30_code
def y_M_next : MethodName := ⟨"SurveyStoreModel", "next", "(II)I"⟩
abbrev b_M_joinBase : ByteArray := prog_8_method_31_code
def y_M_joinBase : MethodName := ⟨"SurveyStoreModel", "joinBase", "(II)V"⟩
abbrev b_M_madeIn : ByteArray := prog_8_method_35_code
def y_M_madeIn : MethodName := ⟨"SurveyStoreModel", "madeIn", "(I)I"⟩
abbrev b_M_note : ByteArray := prog_8_method_33_code
def y_M_note : MethodName := ⟨"SurveyStoreModel", "note", "(IIIII)V"⟩
abbrev b_M_conflict : ByteArray := prog_8_method_37_code
def y_M_conflict : MethodName := ⟨"SurveyStoreModel", "conflict", "(III)I"⟩
abbrev b_M_isConflict : ByteArray := prog_8_method_36_code
def y_M_isConflict : MethodName := ⟨"SurveyStoreModel", "isConflict", "(II)Z"⟩
abbrev b_M_settle : ByteArray := prog_8_method_38_code
def y_M_settle : MethodName := ⟨"SurveyStoreModel", "settle", "(III)I"⟩
abbrev b_M_value : ByteArray := prog_8_method_40_code
def y_M_value : MethodName := ⟨"SurveyStoreModel", "value", "(IIII)I"⟩
abbrev b_M_isCell : ByteArray := prog_8_method_39_code
def y_M_isCell : MethodName := ⟨"SurveyStoreModel", "isCell", "(IIII)Z"⟩
abbrev b_M_isPlace : ByteArray := prog_8_method_7_code
def y_M_isPlace : MethodName := ⟨"SurveyStoreModel", "isPlace", "(I)Z"⟩
abbrev b_M_origin : ByteArray := prog_8_method_41_code
def y_M_origin : MethodName := ⟨"SurveyStoreModel", "origin", "(IIIII)I"⟩
abbrev b_M_total : ByteArray := prog_8_method_42_code
def y_M_total : MethodName := ⟨"SurveyStoreModel", "total", "(III)I"⟩
abbrev b_M_differing : ByteArray := prog_8_method_43_code
def y_M_differing : MethodName := ⟨"SurveyStoreModel", "differing", "(III)I"⟩
abbrev b_M_differs : ByteArray := prog_8_method_44_code
def y_M_differs : MethodName := ⟨"SurveyStoreModel", "differs", "(IIII)I"⟩
abbrev b_M_nearest : ByteArray := prog_8_method_45_code
def y_M_nearest : MethodName := ⟨"SurveyStoreModel", "nearest", "(III)I"⟩
abbrev b_M_about : ByteArray := prog_8_method_46_code
def y_M_about : MethodName := ⟨"SurveyStoreModel", "about", "(II)I"⟩
abbrev b_M_blocks : ByteArray := prog_8_method_49_code
def y_M_blocks : MethodName := ⟨"SurveyStoreModel", "blocks", "(I)I"⟩
abbrev b_M_isNew : ByteArray := prog_8_method_48_code
def y_M_isNew : MethodName := ⟨"SurveyStoreModel", "isNew", "(I)Z"⟩
abbrev b_M_sameBlock : ByteArray := prog_8_method_47_code
def y_M_sameBlock : MethodName := ⟨"SurveyStoreModel", "sameBlock", "(II)Z"⟩
abbrev b_L_law : ByteArray := code
def y_L_law : MethodName := ⟨"SurveyStoreLaw", "law", "([I)Z"⟩
end
section
/-! A layer of my own over the kit's worlds: the heap as a function from addresses to cells ('zG'), one judgement 'zw' (the machine comes to an end that Post takes), one contract 'zMet' (a method returns or throws), and a row for each instruction. All words of the tables are read at ONE state s0, the law's start: every later state has warmer tables and the same old cells. -/
abbrev zC : Type := (Nat × List Value) ⊕ (Nat × (Nat → Int32)) ⊕ (Nat × (Nat → Int32)) ⊕ (Nat × (Nat → Int64)) ⊕ (Nat × Nat × (Nat → Option Nat))
abbrev zO (ci : Nat) (fs : List Value) : zC := .inl (ci, fs)
abbrev zI (n : Nat) (f : Nat → Int32) : zC := .inr (.inl (n, f))
abbrev zB (n : Nat) (f : Nat → Int32) : zC := .inr (.inr (.inl (n, f)))
abbrev zJ (n : Nat) (f : Nat → Int64) : zC := .inr (.inr (.inr (.inl (n, f))))
abbrev zR (t n : Nat) (f : Nat → Option Nat) : zC := .inr (.inr (.inr (.inr (t, n, f))))
abbrev zG : Type := Nat → Option zC
def zput (G : zG) (a : Nat) (c : zC) : zG := fun q => if q = a then some c else G q
theorem zput_s (G : zG) (a : Nat) (c : zC) : zput G a c a = some c := if_pos rfl
theorem zput_n {G : zG} {a b : Nat} {c : zC} (h : b ≠ a) : zput G a c b = G b := if_neg h
theorem zput_e {G : zG} {a b : Nat} {c : zC} (h : b = a) : zput G a c b = some c := if_pos h
theorem zput_z (G : zG) (a : Nat) (c c' : zC) : zput (zput G a c) a c' = zput G a c' := by
  funext q
  unfold zput
  by_cases h : q = a
  · rw [if_pos h, if_pos h]
  · rw [if_neg h, if_neg h, if_neg h]
theorem zput_id {G : zG} {a : Nat} {c : zC} (h : G a = some c) : zput G a c = G := by
  funext q
  unfold zput
  by_cases e : q = a
  · rw [if_pos e, e, h]
  · rw [if_neg e]
theorem zput_c {G : zG} {a b : Nat} {c c' : zC} (h : a ≠ b) : zput (zput G a c) b c' = zput (zput G b c') a c := by
  funext q
  unfold zput
  by_cases e : q = a
  · subst e
    rw [if_neg h, if_pos rfl, if_pos rfl]
  · rw [if_neg e, if_neg e]
def zE (tc : Nat → ClassId) (c : zC) : va_E := match c with
  | .inl o => .inr o
  | .inr (.inl x) => .inl (tc 0, x.1, .inl x.2)
  | .inr (.inr (.inl x)) => .inl (tc 1, x.1, .inl x.2)
  | .inr (.inr (.inr (.inl x))) => .inl (tc 2, x.1, .inr (.inl x.2))
  | .inr (.inr (.inr (.inr x))) => .inl (tc x.1, x.2.1, .inr (.inr (.inr (.inr x.2.2))))
/-- the heap H holds the cells of G, and they lie in A -/
def zRep (D : va_G) (tc : Nat → ClassId) (A : Nat → Prop) (G : zG) (H : Heap) : Prop :=
  ∃ ws : va_W, va_P D zcl ws H ∧ va_D A ws ∧ (∀ (a : Nat) (c : zC), G a = some c → ∃ k : Nat, ws[k]? = some (a, zE tc c)) ∧ ∀ (k : Nat) (q : Nat × va_E), ws[k]? = some q → ∃ c : zC, G q.1 = some c ∧ q.2 = zE tc c
theorem zRep_set {D : va_G} {tc : Nat → ClassId} {A : Nat → Prop} {G : zG} {H1 : Heap} {ws : va_W} {a k : Nat} {e : va_E} {c' : zC} (hD : va_D A ws) (h3 : ∀ (a : Nat) (c : zC), G a = some c → ∃ k : Nat, ws[k]? = some (a, zE tc c)) (h4 : ∀ (k : Nat) (q : Nat × va_E), ws[k]? = some q → ∃ c : zC, G q.1 = some c ∧ q.2 = zE tc c)
    (hk : ws[k]? = some (a, e)) (hP1 : va_P D zcl (ws.set k (a, zE tc c')) H1) (hD1 : va_D A (ws.set k (a, zE tc c'))) : zRep D tc A (zput G a c') H1 := by
  have hlt : k < ws.length := (List.getElem?_eq_some_iff.mp hk).1
  refine ⟨_, hP1, hD1, fun b cb hb => ?_, fun j q hq => ?_⟩
  · by_cases e1 : b = a
    · subst e1
      rw [zput_s] at hb
      cases hb
      exact ⟨k, List.getElem?_set_self hlt⟩
    · rw [zput_n e1] at hb
      obtain ⟨j, hj⟩ := h3 b cb hb
      have hne : k ≠ j := fun e2 => by
        subst e2
        rw [hk] at hj
        cases hj
        exact e1 rfl
      exact ⟨j, by rw [List.getElem?_set_ne hne]; exact hj⟩
  · by_cases e1 : k = j
    · subst e1
      rw [List.getElem?_set_self hlt] at hq
      cases hq
      exact ⟨c', zput_s _ _ _, rfl⟩
    · rw [List.getElem?_set_ne e1] at hq
      obtain ⟨c, g1, g2⟩ := h4 j q hq
      have hne : q.1 ≠ a := fun e2 => e1 (hD.1 k j _ _ hk hq e2.symm)
      exact ⟨c, by rw [zput_n hne]; exact g1, g2⟩
theorem zRep_push {D : va_G} {tc : Nat → ClassId} {A : Nat → Prop} {G : zG} {H1 : Heap} {ws : va_W} {q : Nat} {c' : zC} (h3 : ∀ (a : Nat) (c : zC), G a = some c → ∃ k : Nat, ws[k]? = some (a, zE tc c)) (h4 : ∀ (k : Nat) (q : Nat × va_E), ws[k]? = some q → ∃ c : zC, G q.1 = some c ∧ q.2 = zE tc c)
    (hP1 : va_P D zcl (ws ++ [(q, zE tc c')]) H1) (hD1 : va_D A (ws ++ [(q, zE tc c')])) : G q = none ∧ zRep D tc A (zput G q c') H1 := by
  have hlast : (ws ++ [(q, zE tc c')])[ws.length]? = some (q, zE tc c') := by
    rw [List.getElem?_append_right (Nat.le_refl _), Nat.sub_self]
    rfl
  have hold : ∀ (j : Nat) (x : Nat × va_E), ws[j]? = some x → (ws ++ [(q, zE tc c')])[j]? = some x := fun j x hx => by
    rw [List.getElem?_append_left (List.getElem?_eq_some_iff.mp hx).1]
    exact hx
  have hno : ∀ (j : Nat) (x : Nat × va_E), ws[j]? = some x → x.1 ≠ q := fun j x hx e => by
    have h1 := hD1.1 j ws.length _ _ (hold j x hx) hlast e
    have h2 := (List.getElem?_eq_some_iff.mp hx).1
    omega
  refine ⟨?_, _, hP1, hD1, fun b cb hb => ?_, fun j x hx => ?_⟩
  · cases hg : G q with
    | none => rfl
    | some c =>
      obtain ⟨j, hj⟩ := h3 q c hg
      exact absurd rfl (hno j _ hj)
  · by_cases e1 : b = q
    · subst e1
      rw [zput_s] at hb
      cases hb
      exact ⟨ws.length, hlast⟩
    · rw [zput_n e1] at hb
      obtain ⟨j, hj⟩ := h3 b cb hb
      exact ⟨j, hold j _ hj⟩
  · by_cases hl : j < ws.length
    · rw [List.getElem?_append_left hl] at hx
      obtain ⟨c, g1, g2⟩ := h4 j x hx
      exact ⟨c, by rw [zput_n (hno j x hx)]; exact g1, g2⟩
    · rw [List.getElem?_append_right (by omega)] at hx
      have hz : j - ws.length < 1 := (List.getElem?_eq_some_iff.mp hx).1
      rw [show j - ws.length = 0 by omega] at hx
      cases hx
      exact ⟨c', zput_s _ _ _, rfl⟩
theorem zRep.weaken {D : va_G} {tc : Nat → ClassId} {A B : Nat → Prop} {G : zG} {H : Heap} (h : zRep D tc A G H) (hAB : ∀ q, A q → B q) : zRep D tc B G H := by
  obtain ⟨ws, h1, h2, h3, h4⟩ := h
  exact ⟨ws, h1, h2.weaken (fun _ _ _ hq => hAB _ hq), h3, h4⟩
theorem zRep.kept {D : va_G} {tc : Nat → ClassId} {A : Nat → Prop} {G : zG} {H H1 : Heap} (h : zRep D tc A G H) (hq : ∀ q : Nat, q < H.size → H1[q]? = H[q]?) : zRep D tc A G H1 := by
  obtain ⟨ws, h1, h2, h3, h4⟩ := h
  exact ⟨ws, h1.kept (fun k q hk => hq _ (h1 k q hk).lt), h2, h3, h4⟩
theorem zRep.inA {D : va_G} {tc : Nat → ClassId} {A : Nat → Prop} {G : zG} {H : Heap} (h : zRep D tc A G H) {a : Nat} (ha : G a ≠ none) : A a := by
  obtain ⟨ws, h1, h2, h3, h4⟩ := h
  cases hg : G a with
  | none => exact absurd hg ha
  | some c =>
    obtain ⟨k, hk⟩ := h3 a c hg
    exact h2.2 k _ hk
theorem zRep.lt {D : va_G} {tc : Nat → ClassId} {A : Nat → Prop} {G : zG} {H : Heap} (h : zRep D tc A G H) {a : Nat} (ha : G a ≠ none) : a < H.size := by
  obtain ⟨ws, h1, h2, h3, h4⟩ := h
  cases hg : G a with
  | none => exact absurd hg ha
  | some c =>
    obtain ⟨k, hk⟩ := h3 a c hg
    exact (h1 k _ hk).lt
/-! locals by their places -/
def zlk : List (Option Value) → Nat → Option Value
  | [], _ => none
  | o :: _, 0 => o
  | _ :: r, i + 1 => zlk r i
def zse : List (Option Value) → Nat → Option Value → List (Option Value)
  | [], _, _ => []
  | _ :: r, 0, v => v :: r
  | o :: r, i + 1, v => o :: zse r i v
theorem zlk_se : ∀ (zl : List (Option Value)) (i j : Nat) (v : Option Value) (w : Value), zlk (zse zl i v) j = some w → (j = i ∧ v = some w) ∨ (j ≠ i ∧ zlk zl j = some w)
  | [], i, j, v, w, h => by
    cases h
  | o :: r, 0, 0, v, w, h => Or.inl ⟨rfl, h⟩
  | o :: r, 0, j + 1, v, w, h => Or.inr ⟨Nat.succ_ne_zero j, h⟩
  | o :: r, i + 1, 0, v, w, h => Or.inr ⟨(Nat.succ_ne_zero i).symm, h⟩
  | o :: r, i + 1, j + 1, v, w, h => by
    rcases zlk_se r i j v w h with ⟨h1, h2⟩ | ⟨h1, h2⟩
    · exact Or.inl ⟨by omega, h2⟩
    · exact Or.inr ⟨by omega, h2⟩
def zbl (zl : List (Option Value)) (i : Nat) : List (Option Value) := match i with
  | 0 => zl
  | j + 1 => match zlk zl j with
    | some (.long _) => zse zl j none
    | some (.double _) => zse zl j none
    | _ => zl
/-- a value of one word is kept at place i; a value of two words that would be cut is forgotten -/
def zst (zl : List (Option Value)) (i : Nat) (v : Value) : List (Option Value) := zse (zbl zl i) i (some v)
def zst2 (zl : List (Option Value)) (i : Nat) (v : Value) : List (Option Value) := zse (zse (zbl zl i) i (some v)) (i + 1) none
theorem zbl_sub {zl : List (Option Value)} {i j : Nat} {w : Value} (h : zlk (zbl zl i) j = some w) : zlk zl j = some w ∧ ¬ (j + 1 = i ∧ w.category = 2) := by
  cases i with
  | zero => exact ⟨h, fun q => by omega⟩
  | succ i =>
    unfold zbl at h
    dsimp only at h
    split at h
    · rcases zlk_se _ _ _ _ _ h with ⟨_, h2⟩ | ⟨h1, h2⟩
      · cases h2
      · exact ⟨h2, fun q => h1 (by omega)⟩
    · rcases zlk_se _ _ _ _ _ h with ⟨_, h2⟩ | ⟨h1, h2⟩
      · cases h2
      · exact ⟨h2, fun q => h1 (by omega)⟩
    · rename_i h1 h2
      refine ⟨h, fun q => ?_⟩
      have e : j = i := by omega
      subst e
      obtain ⟨-, q⟩ := q
      cases w with
      | long x => exact h1 x h
      | double x => exact h2 x h
      | _ => exact absurd q (by simp [Value.category])
def zloc (L : Array Slot) (nL : Nat) (zl : List (Option Value)) : Prop := ∃ l : List (Nat × Value), lv_has L nL l ∧ ∀ (i : Nat) (v : Value), zlk zl i = some v → (i, v) ∈ l
theorem zloc.at {L : Array Slot} {nL : Nat} {zl : List (Option Value)} (h : zloc L nL zl) {i : Nat} {v : Value} (hi : zlk zl i = some v) : L[i]? = some (.val v) := by
  obtain ⟨l, h1, h2⟩ := h
  exact h1.2.2 _ (h2 i v hi)
theorem zloc.size {L : Array Slot} {nL : Nat} {zl : List (Option Value)} (h : zloc L nL zl) : L.size = nL := by
  obtain ⟨l, h1, h2⟩ := h
  exact h1.1
theorem zloc.st1 {l : List (Nat × Value)} {zl : List (Option Value)} (h2 : ∀ (i : Nat) (v : Value), zlk zl i = some v → (i, v) ∈ l) {L : Array Slot} {nL i : Nat} {v : Value} (h : lv_has L nL ((i, v) :: l.filter (fun q => !(q.1 == i) && !(q.1 + 1 == i && q.2.category == 2)))) : zloc L nL (zst zl i v) := by
  refine ⟨_, h, fun j w hw => ?_⟩
  rcases zlk_se _ _ _ _ _ hw with ⟨e1, e2⟩ | ⟨e1, e2⟩
  · cases e2
    rw [e1]
    exact List.mem_cons_self
  · obtain ⟨g1, g2⟩ := zbl_sub e2
    refine List.mem_cons_of_mem _ (List.mem_filter.mpr ⟨h2 j w g1, ?_⟩)
    show (!(j == i) && !(j + 1 == i && w.category == 2)) = true
    rw [Bool.and_eq_true, Bool.not_eq_true', Bool.not_eq_true']
    refine ⟨beq_false_of_ne e1, ?_⟩
    rw [Bool.and_eq_false_iff]
    by_cases e : j + 1 = i
    · exact Or.inr (beq_false_of_ne fun q => g2 ⟨e, q⟩)
    · exact Or.inl (beq_false_of_ne e)
theorem zloc.st2 {l : List (Nat × Value)} {zl : List (Option Value)} (h2 : ∀ (i : Nat) (v : Value), zlk zl i = some v → (i, v) ∈ l) {L : Array Slot} {nL i : Nat} {v : Value} (h : lv_has L nL ((i, v) :: l.filter (fun q => !(q.1 == i) && (!(q.1 == i + 1) && !(q.1 + 1 == i && q.2.category == 2))))) : zloc L nL (zst2 zl i v) := by
  refine ⟨_, h, fun j w hw => ?_⟩
  rcases zlk_se _ _ _ _ _ hw with ⟨e1, e2⟩ | ⟨e0, e2⟩
  · cases e2
  · rcases zlk_se _ _ _ _ _ e2 with ⟨e1, e2⟩ | ⟨e1, e2⟩
    · cases e2
      rw [e1]
      exact List.mem_cons_self
    · obtain ⟨g1, g2⟩ := zbl_sub e2
      refine List.mem_cons_of_mem _ (List.mem_filter.mpr ⟨h2 j w g1, ?_⟩)
      show (!(j == i) && (!(j == i + 1) && !(j + 1 == i && w.category == 2))) = true
      rw [Bool.and_eq_true, Bool.and_eq_true, Bool.not_eq_true', Bool.not_eq_true', Bool.not_eq_true']
      refine ⟨beq_false_of_ne e1, beq_false_of_ne e0, ?_⟩
      rw [Bool.and_eq_false_iff]
      by_cases e : j + 1 = i
      · exact Or.inr (beq_false_of_ne fun q => g2 ⟨e, q⟩)
      · exact Or.inl (beq_false_of_ne e)
def zarg : List Value → List (Option Value)
  | [] => []
  | v :: r => if v.category = 2 then some v :: none :: zarg r else some v :: zarg r
theorem zarg_in : ∀ (vs : List Value) (b i : Nat) (v : Value), zlk (zarg vs) i = some v → (b + i, v) ∈ lv_args b vs
  | [], b, i, v, h => by cases h
  | w :: r, b, i, v, h => by
    unfold zarg at h
    unfold lv_args
    by_cases hc : w.category = 2
    · rw [if_pos hc] at h ⊢
      match i, h with
      | 0, h => cases h; exact List.mem_cons_self
      | 1, h => cases h
      | i + 2, h => exact List.mem_cons_of_mem _ (by rw [show b + (i + 2) = (b + 2) + i by omega]; exact zarg_in r (b + 2) i v h)
    · rw [if_neg hc] at h ⊢
      match i, h with
      | 0, h => cases h; exact List.mem_cons_self
      | i + 1, h => exact List.mem_cons_of_mem _ (by rw [show b + (i + 1) = (b + 1) + i by omega]; exact zarg_in r (b + 1) i v h)
theorem zlk_app : ∀ (zl : List (Option Value)) (n i : Nat) (v : Value), zlk (zl ++ List.replicate n none) i = some v → zlk zl i = some v
  | [], n, i, v, h => by
    exfalso
    revert i
    induction n with
    | zero => intro i h; cases h
    | succ n ih =>
      intro i h
      cases i with
      | zero => cases h
      | succ i => exact ih i h
  | o :: r, n, 0, v, h => h
  | o :: r, n, i + 1, v, h => zlk_app r n i v h
def zent (vs : List Value) (nL : Nat) : List (Option Value) := zarg vs ++ List.replicate (nL - (zarg vs).length) none
/-! the judgement -/
/-- the law's start, its arguments, where the classes' fields lie, the array classes, the launch -/
abbrev zGt : Type := State × Array Value × va_G × (Nat → ClassId) × Launch
abbrev zs0 (g : zGt) : State := g.1
abbrev za0 (g : zGt) : Array Value := g.2.1
abbrev zD (g : zGt) : va_G := g.2.2.1
abbrev ztc (g : zGt) : Nat → ClassId := g.2.2.2.1
abbrev zl0 (g : zGt) : Launch := g.2.2.2.2
def zGl (g : zGt) : Prop := (∀ w ∈ zTW, w.before (za0 g) (zs0 g) = true) ∧ va_K (zD g) zcl (zty (ztc g)) (zs0 g) ∧ (zl0 g).stackTraces = false
abbrev zRes : Type := Option Value ⊕ String
def zrm (d mc ms : Nat) : Room := { frames := d, cells := mc, slots := ms, locals := 64 * d }
def zA (g : zGt) (G : zG) (sz : Nat) : Nat → Prop := fun q => (G q ≠ none ∨ sz ≤ q) ∧ (zs0 g).heap.size ≤ q
/-- a later state: warmer tables, the old cells as they were -/
def zAft (g : zGt) (U : State) (H : Heap) : Prop := (zs0 g).WarmedH U.vm ∧ (zs0 g).heap.size ≤ H.size ∧ ∀ q : Nat, q < (zs0 g).heap.size → H[q]? = (zs0 g).heap[q]?
def zOut (r : zRes) (o : Outcome) (st t : State) : Prop := match r with
  | .inl v => o = .returned v
  | .inr E => ∃ (q : Addr) (ce : Cell), o = .threw q ∧ t.heap[q]? = some ce ∧ ce.vm = .none ∧ st.vm.findClass E = some ce.cls
def zQ (g : zGt) (A : Nat → Prop) (mc ms : Nat) (Post : zRes → zG → Prop) : Array Value → State → Outcome → State → Prop := fun _ st o t =>
  ∃ (r : zRes) (G : zG) (L : List Loc), Post r G ∧ zRep (zD g) (ztc g) A G t.heap ∧ va_F A st t ∧ st.WarmedH t.vm ∧ st.sameButNew ({ t with vm := st.vm } : State) L mc ms ∧ (∀ z ∈ L, A z.base) ∧ zOut r o st t
def zEnd (g : zGt) (below : List Frame) (args : Array Value) (s : State) (A : Nat → Prop) (mc ms : Nat) (Post : zRes → zG → Prop) : State → Prop := fun t =>
  ∃ o, t.status = .running ∧ Ended t below o ∧ zQ g A mc ms Post args s o t
abbrev zX : Type := Program × Env × Room × State × MethodId × Array Value × List Frame × Method × Code × (Nat → Prop) × Nat
def zw (g : zGt) (X : zX) (Post : zRes → zG → Prop) (pc : Nat) (zl : List (Option Value)) (st : List Value) (G : zG) (k n : Nat) : Prop := match X with
  | (p, e, R, s, m, args, below, meth, c, A, nL) => ∀ (H : Heap) (locs : List Loc) (L : Array Slot), zRep (zD g) (ztc g) A G H → va_S A s.heap H locs → zloc L nL zl → k ≤ R.cells → n ≤ R.slots →
      W p (zl0 g) e R s m args below meth c H locs k n (zEnd g below args s A R.cells R.slots Post) (F0 m pc L st)
/-- the machine throws the cell q, an E, at pc -/
def zt (g : zGt) (X : zX) (Post : zRes → zG → Prop) (pc : Nat) (E : String) (zl : List (Option Value)) (G : zG) (k n : Nat) : Prop := match X with
  | (p, e, R, s, m, args, below, meth, c, A, nL) => ∀ (H : Heap) (locs : List Loc) (L : Array Slot) (st : List Value) (q : Addr) (ce : Cell), zRep (zD g) (ztc g) A G H → va_S A s.heap H locs → zloc L nL zl → k ≤ R.cells → n ≤ R.slots → H[q]? = some ce → ce.vm = .none → s.vm.findClass E = some ce.cls →
      ∀ T : State, T.heap = H → Stand p (zl0 g) e R s m args below meth c T locs k n → ∃ t, Steps p.tables e below ((T.setTop (F0 m pc L st)).pushFrame (.throwing q)) t ∧ zEnd g below args s A R.cells R.slots Post t
/-- what a method's walk may use -/
def zOK (g : zGt) (X : zX) (cc : ByteArray) (y : MethodName) (ret : Option FieldType) (tb : List (Nat × Nat × Nat × Nat)) (nl d mc ms : Nat) : Prop := match X with
  | (p, _, R, s, m, _, _, meth, c, A, nL) => zGl g ∧ p.tables.exec = Jvm.exec ∧ c.code = cc ∧ c.maxLocals = nL ∧ nL = nl ∧ s.vm.findClass y.cls = some m.cls ∧ meth.name = y.name ∧ zAft g s s.heap ∧ (∀ q : Nat, s.heap.size ≤ q → A q) ∧ (∀ q, A q → (zs0 g).heap.size ≤ q) ∧ meth.locks = false ∧ meth.sig.returnType = ret ∧ c.exceptionTable.toList = tableOf tb ∧ R = zrm d mc ms
section ZW
variable {g : zGt} {p : Program} {e : Env} {R : Room} {s : State} {m : MethodId} {args : Array Value} {below : List Frame} {meth : Method} {c : Code} {A : Nat → Prop} {nL : Nat}
variable {cc : ByteArray} {y : MethodName} {ret : Option FieldType} {tb : List (Nat × Nat × Nat × Nat)} {nl d mc ms : Nat}
theorem zOK.gl (h : zOK g (p, e, R, s, m, args, below, meth, c, A, nL) cc y ret tb nl d mc ms) : zGl g := h.1
theorem zOK.ex (h : zOK g (p, e, R, s, m, args, below, meth, c, A, nL) cc y ret tb nl d mc ms) : p.tables.exec = Jvm.exec := h.2.1
theorem zOK.cd (h : zOK g (p, e, R, s, m, args, below, meth, c, A, nL) cc y ret tb nl d mc ms) : c.code = cc := h.2.2.1
theorem zOK.ml (h : zOK g (p, e, R, s, m, args, below, meth, c, A, nL) cc y ret tb nl d mc ms) : c.maxLocals = nL := h.2.2.2.1
theorem zOK.nq (h : zOK g (p, e, R, s, m, args, below, meth, c, A, nL) cc y ret tb nl d mc ms) : nL = nl := h.2.2.2.2.1
theorem zOK.ow (h : zOK g (p, e, R, s, m, args, below, meth, c, A, nL) cc y ret tb nl d mc ms) : s.vm.findClass y.cls = some m.cls := h.2.2.2.2.2.1
theorem zOK.nm (h : zOK g (p, e, R, s, m, args, below, meth, c, A, nL) cc y ret tb nl d mc ms) : meth.name = y.name := h.2.2.2.2.2.2.1
theorem zOK.af (h : zOK g (p, e, R, s, m, args, below, meth, c, A, nL) cc y ret tb nl d mc ms) : zAft g s s.heap := h.2.2.2.2.2.2.2.1
theorem zOK.hA (h : zOK g (p, e, R, s, m, args, below, meth, c, A, nL) cc y ret tb nl d mc ms) : ∀ q : Nat, s.heap.size ≤ q → A q := h.2.2.2.2.2.2.2.2.1
theorem zOK.A0 (h : zOK g (p, e, R, s, m, args, below, meth, c, A, nL) cc y ret tb nl d mc ms) : ∀ q, A q → (zs0 g).heap.size ≤ q := h.2.2.2.2.2.2.2.2.2.1
theorem zOK.lk (h : zOK g (p, e, R, s, m, args, below, meth, c, A, nL) cc y ret tb nl d mc ms) : meth.locks = false := h.2.2.2.2.2.2.2.2.2.2.1
theorem zOK.rt (h : zOK g (p, e, R, s, m, args, below, meth, c, A, nL) cc y ret tb nl d mc ms) : meth.sig.returnType = ret := h.2.2.2.2.2.2.2.2.2.2.2.1
theorem zOK.tq (h : zOK g (p, e, R, s, m, args, below, meth, c, A, nL) cc y ret tb nl d mc ms) : c.exceptionTable.toList = tableOf tb := h.2.2.2.2.2.2.2.2.2.2.2.2.1
theorem zOK.rm (h : zOK g (p, e, R, s, m, args, below, meth, c, A, nL) cc y ret tb nl d mc ms) : R = zrm d mc ms := h.2.2.2.2.2.2.2.2.2.2.2.2.2
theorem zOK.K (h : zOK g (p, e, R, s, m, args, below, meth, c, A, nL) cc y ret tb nl d mc ms) : va_K (zD g) zcl (zty (ztc g)) s := va_K.moved h.af.1.alike h.gl.2.1
/-- a word of the tables, here -/
theorem zOK.wd (h : zOK g (p, e, R, s, m, args, below, meth, c, A, nL) cc y ret tb nl d mc ms) {w : Cond} (hw : w ∈ zTW) (hg : (w.onTables && w.keeps) = true ∨ ∃ ty, w = .arrayClass ty) : w.before args s = true := word_at h.af.1 hg (h.gl.1 w hw)
theorem zOK.wk (h : zOK g (p, e, R, s, m, args, below, meth, c, A, nL) cc y ret tb nl d mc ms) {w : Cond} (hw : w ∈ zTW) (hg : (w.onTables && w.keeps) = true) : w.before args s = true := h.wd hw (Or.inl hg)
end ZW
end
section
section ZR
variable {g : zGt} {X : zX} {cc : ByteArray} {y : MethodName} {ret : Option FieldType} {tb : List (Nat × Nat × Nat × Nat)} {nl d mc ms : Nat} {Post : zRes → zG → Prop} {pc : Nat} {zl : List (Option Value)} {st : List Value} {G : zG} {k n : Nat}
theorem zr_iconst (hX : zOK g X cc y ret tb nl d mc ms) {i : Int} {v : Int32} (hv : Int32.ofInt i = v) (hd : decode cc pc = .ok (.iconst i, 1)) (kk : zw g X Post (pc + 1) zl (.int v :: st) G k n) : zw g X Post pc zl st G k n := by
  obtain ⟨p, e, R, s, m, args, below, meth, c, A, nL⟩ := X
  intro H locs L hR hS hL hk hn
  exact lv_iconst hX.ex hX.cd hd hv (kk H locs L hR hS hL hk hn)
theorem zr_bipush (hX : zOK g X cc y ret tb nl d mc ms) {i : Int} {v : Int32} (hv : (Int8.ofInt i).toInt32 = v) (hd : decode cc pc = .ok (.bipush i, 2)) (kk : zw g X Post (pc + 2) zl (.int v :: st) G k n) : zw g X Post pc zl st G k n := by
  obtain ⟨p, e, R, s, m, args, below, meth, c, A, nL⟩ := X
  intro H locs L hR hS hL hk hn
  exact lv_bipush hX.ex hX.cd hd hv (kk H locs L hR hS hL hk hn)
theorem zr_sipush (hX : zOK g X cc y ret tb nl d mc ms) {i : Int} {v : Int32} (hv : (Int16.ofInt i).toInt32 = v) (hd : decode cc pc = .ok (.sipush i, 3)) (kk : zw g X Post (pc + 3) zl (.int v :: st) G k n) : zw g X Post pc zl st G k n := by
  obtain ⟨p, e, R, s, m, args, below, meth, c, A, nL⟩ := X
  intro H locs L hR hS hL hk hn
  exact lv_sipush hX.ex hX.cd hd hv (kk H locs L hR hS hL hk hn)
theorem zr_ldc (hX : zOK g X cc y ret tb nl d mc ms) {i : Nat} {v : Int32} (hw : Jvm.Cond.constant y.cls i v ∈ zTW) (hd : decode cc pc = .ok (.ldc i, 2)) (kk : zw g X Post (pc + 2) zl (.int v :: st) G k n) : zw g X Post pc zl st G k n := by
  obtain ⟨p, e, R, s, m, args, below, meth, c, A, nL⟩ := X
  intro H locs L hR hS hL hk hn
  exact lv_ldc hX.ex hX.cd hX.ow (hX.wk hw rfl) hd (kk H locs L hR hS hL hk hn)
theorem zr_ldcw (hX : zOK g X cc y ret tb nl d mc ms) {i : Nat} {v : Int32} (hw : Jvm.Cond.constant y.cls i v ∈ zTW) (hd : decode cc pc = .ok (.ldc_w i, 3)) (kk : zw g X Post (pc + 3) zl (.int v :: st) G k n) : zw g X Post pc zl st G k n := by
  obtain ⟨p, e, R, s, m, args, below, meth, c, A, nL⟩ := X
  intro H locs L hR hS hL hk hn
  exact lv_ldcw hX.ex hX.cd hX.ow (hX.wk hw rfl) hd (kk H locs L hR hS hL hk hn)
theorem zr_ldc2 (hX : zOK g X cc y ret tb nl d mc ms) {i : Nat} {v : Int64} (hw : Jvm.Cond.constantLong y.cls i v ∈ zTW) (hd : decode cc pc = .ok (.ldc2_w i, 3)) (kk : zw g X Post (pc + 3) zl (.long v :: st) G k n) : zw g X Post pc zl st G k n := by
  obtain ⟨p, e, R, s, m, args, below, meth, c, A, nL⟩ := X
  intro H locs L hR hS hL hk hn
  exact lv_ldc2 hX.ex hX.cd hX.ow (hX.wk hw rfl) hd (kk H locs L hR hS hL hk hn)
theorem zr_null (hX : zOK g X cc y ret tb nl d mc ms)  (hd : decode cc pc = .ok (.aconst_null, 1)) (kk : zw g X Post (pc + 1) zl (.null :: st) G k n) : zw g X Post pc zl st G k n := by
  obtain ⟨p, e, R, s, m, args, below, meth, c, A, nL⟩ := X
  intro H locs L hR hS hL hk hn
  exact lv_null hX.ex hX.cd hd (kk H locs L hR hS hL hk hn)
theorem zr_iload_n (hX : zOK g X cc y ret tb nl d mc ms) {i : Fin 4} {x : Int32} (hl : zlk zl (i : Nat) = some (.int x)) (hd : decode cc pc = .ok (.iload_n i, 1)) (kk : zw g X Post (pc + 1) zl (.int x :: st) G k n) : zw g X Post pc zl st G k n := by
  obtain ⟨p, e, R, s, m, args, below, meth, c, A, nL⟩ := X
  intro H locs L hR hS hL hk hn
  exact lv_iload_n hX.ex hX.cd hd rfl (hL.at hl) (kk H locs L hR hS hL hk hn)
theorem zr_iload (hX : zOK g X cc y ret tb nl d mc ms) {i : Nat} {x : Int32} (hl : zlk zl i = some (.int x)) (hd : decode cc pc = .ok (.iload i, 2)) (kk : zw g X Post (pc + 2) zl (.int x :: st) G k n) : zw g X Post pc zl st G k n := by
  obtain ⟨p, e, R, s, m, args, below, meth, c, A, nL⟩ := X
  intro H locs L hR hS hL hk hn
  exact lv_iload hX.ex hX.cd hd (hL.at hl) (kk H locs L hR hS hL hk hn)
theorem zr_lload_n (hX : zOK g X cc y ret tb nl d mc ms) {i : Fin 4} {x : Int64} (hl : zlk zl (i : Nat) = some (.long x)) (hd : decode cc pc = .ok (.lload_n i, 1)) (kk : zw g X Post (pc + 1) zl (.long x :: st) G k n) : zw g X Post pc zl st G k n := by
  obtain ⟨p, e, R, s, m, args, below, meth, c, A, nL⟩ := X
  intro H locs L hR hS hL hk hn
  exact lv_lload_n hX.ex hX.cd hd rfl (hL.at hl) (kk H locs L hR hS hL hk hn)
theorem zr_lload (hX : zOK g X cc y ret tb nl d mc ms) {i : Nat} {x : Int64} (hl : zlk zl i = some (.long x)) (hd : decode cc pc = .ok (.lload i, 2)) (kk : zw g X Post (pc + 2) zl (.long x :: st) G k n) : zw g X Post pc zl st G k n := by
  obtain ⟨p, e, R, s, m, args, below, meth, c, A, nL⟩ := X
  intro H locs L hR hS hL hk hn
  exact lv_lload hX.ex hX.cd hd (hL.at hl) (kk H locs L hR hS hL hk hn)
theorem zr_aload_n (hX : zOK g X cc y ret tb nl d mc ms) {i : Fin 4} {x : Nat} (hl : zlk zl (i : Nat) = some (.ref x)) (hd : decode cc pc = .ok (.aload_n i, 1)) (kk : zw g X Post (pc + 1) zl (.ref x :: st) G k n) : zw g X Post pc zl st G k n := by
  obtain ⟨p, e, R, s, m, args, below, meth, c, A, nL⟩ := X
  intro H locs L hR hS hL hk hn
  exact lv_aload_n hX.ex hX.cd hd rfl (hL.at hl) (kk H locs L hR hS hL hk hn)
theorem zr_aload (hX : zOK g X cc y ret tb nl d mc ms) {i : Nat} {x : Nat} (hl : zlk zl i = some (.ref x)) (hd : decode cc pc = .ok (.aload i, 2)) (kk : zw g X Post (pc + 2) zl (.ref x :: st) G k n) : zw g X Post pc zl st G k n := by
  obtain ⟨p, e, R, s, m, args, below, meth, c, A, nL⟩ := X
  intro H locs L hR hS hL hk hn
  exact lv_aload hX.ex hX.cd hd (hL.at hl) (kk H locs L hR hS hL hk hn)
theorem zr_aload_nN (hX : zOK g X cc y ret tb nl d mc ms) {i : Fin 4} (hl : zlk zl (i : Nat) = some .null) (hd : decode cc pc = .ok (.aload_n i, 1)) (kk : zw g X Post (pc + 1) zl (.null :: st) G k n) : zw g X Post pc zl st G k n := by
  obtain ⟨p, e, R, s, m, args, below, meth, c, A, nL⟩ := X
  intro H locs L hR hS hL hk hn
  exact lv_aload_nN hX.ex hX.cd hd rfl (hL.at hl) (kk H locs L hR hS hL hk hn)
theorem zr_aloadN (hX : zOK g X cc y ret tb nl d mc ms) {i : Nat} (hl : zlk zl i = some .null) (hd : decode cc pc = .ok (.aload i, 2)) (kk : zw g X Post (pc + 2) zl (.null :: st) G k n) : zw g X Post pc zl st G k n := by
  obtain ⟨p, e, R, s, m, args, below, meth, c, A, nL⟩ := X
  intro H locs L hR hS hL hk hn
  exact lv_aloadN hX.ex hX.cd hd (hL.at hl) (kk H locs L hR hS hL hk hn)
theorem zr_istore_n (hX : zOK g X cc y ret tb nl d mc ms) {i : Fin 4} {x : Int32} (hi : (i : Nat) < nl) (hd : decode cc pc = .ok (.istore_n i, 1)) (kk : zw g X Post (pc + 1) (zst zl (i : Nat) (.int x)) st G k n) : zw g X Post pc zl (.int x :: st) G k n := by
  obtain ⟨p, e, R, s, m, args, below, meth, c, A, nL⟩ := X
  intro H locs L hR hS hL hk hn
  obtain ⟨l9, h1, h2⟩ := hL
  exact lv_istore_n hX.ex hX.cd hd rfl h1 (by rw [hX.nq]; exact hi) rfl (fun L1 hL1 => kk H locs L1 hR hS (zloc.st1 h2 hL1) hk hn)
theorem zr_lstore_n (hX : zOK g X cc y ret tb nl d mc ms) {i : Fin 4} {x : Int64} (hi : (i : Nat) + 1 < nl) (hd : decode cc pc = .ok (.lstore_n i, 1)) (kk : zw g X Post (pc + 1) (zst2 zl (i : Nat) (.long x)) st G k n) : zw g X Post pc zl (.long x :: st) G k n := by
  obtain ⟨p, e, R, s, m, args, below, meth, c, A, nL⟩ := X
  intro H locs L hR hS hL hk hn
  obtain ⟨l9, h1, h2⟩ := hL
  exact lv_lstore_n hX.ex hX.cd hd rfl h1 (by rw [hX.nq]; exact hi) rfl (fun L1 hL1 => kk H locs L1 hR hS (zloc.st2 h2 hL1) hk hn)
theorem zr_astore_n (hX : zOK g X cc y ret tb nl d mc ms) {i : Fin 4} {x : Nat} (hi : (i : Nat) < nl) (hd : decode cc pc = .ok (.astore_n i, 1)) (kk : zw g X Post (pc + 1) (zst zl (i : Nat) (.ref x)) st G k n) : zw g X Post pc zl (.ref x :: st) G k n := by
  obtain ⟨p, e, R, s, m, args, below, meth, c, A, nL⟩ := X
  intro H locs L hR hS hL hk hn
  obtain ⟨l9, h1, h2⟩ := hL
  exact lv_astore_n hX.ex hX.cd hd rfl h1 (by rw [hX.nq]; exact hi) rfl (fun L1 hL1 => kk H locs L1 hR hS (zloc.st1 h2 hL1) hk hn)
theorem zr_astore_nN (hX : zOK g X cc y ret tb nl d mc ms) {i : Fin 4} (hi : (i : Nat) < nl) (hd : decode cc pc = .ok (.astore_n i, 1)) (kk : zw g X Post (pc + 1) (zst zl (i : Nat) (.null)) st G k n) : zw g X Post pc zl (.null :: st) G k n := by
  obtain ⟨p, e, R, s, m, args, below, meth, c, A, nL⟩ := X
  intro H locs L hR hS hL hk hn
  obtain ⟨l9, h1, h2⟩ := hL
  exact lv_astore_nN hX.ex hX.cd hd rfl h1 (by rw [hX.nq]; exact hi) rfl (fun L1 hL1 => kk H locs L1 hR hS (zloc.st1 h2 hL1) hk hn)
theorem zr_istore (hX : zOK g X cc y ret tb nl d mc ms) {i : Nat} {x : Int32} (hi : i < nl) (hd : decode cc pc = .ok (.istore i, 2)) (kk : zw g X Post (pc + 2) (zst zl i (.int x)) st G k n) : zw g X Post pc zl (.int x :: st) G k n := by
  obtain ⟨p, e, R, s, m, args, below, meth, c, A, nL⟩ := X
  intro H locs L hR hS hL hk hn
  obtain ⟨l9, h1, h2⟩ := hL
  exact lv_istore hX.ex hX.cd hd h1 (by rw [hX.nq]; exact hi) rfl (fun L1 hL1 => kk H locs L1 hR hS (zloc.st1 h2 hL1) hk hn)
theorem zr_lstore (hX : zOK g X cc y ret tb nl d mc ms) {i : Nat} {x : Int64} (hi : i + 1 < nl) (hd : decode cc pc = .ok (.lstore i, 2)) (kk : zw g X Post (pc + 2) (zst2 zl i (.long x)) st G k n) : zw g X Post pc zl (.long x :: st) G k n := by
  obtain ⟨p, e, R, s, m, args, below, meth, c, A, nL⟩ := X
  intro H locs L hR hS hL hk hn
  obtain ⟨l9, h1, h2⟩ := hL
  exact lv_lstore hX.ex hX.cd hd h1 (by rw [hX.nq]; exact hi) rfl (fun L1 hL1 => kk H locs L1 hR hS (zloc.st2 h2 hL1) hk hn)
theorem zr_astore (hX : zOK g X cc y ret tb nl d mc ms) {i : Nat} {x : Nat} (hi : i < nl) (hd : decode cc pc = .ok (.astore i, 2)) (kk : zw g X Post (pc + 2) (zst zl i (.ref x)) st G k n) : zw g X Post pc zl (.ref x :: st) G k n := by
  obtain ⟨p, e, R, s, m, args, below, meth, c, A, nL⟩ := X
  intro H locs L hR hS hL hk hn
  obtain ⟨l9, h1, h2⟩ := hL
  exact lv_astore hX.ex hX.cd hd h1 (by rw [hX.nq]; exact hi) rfl (fun L1 hL1 => kk H locs L1 hR hS (zloc.st1 h2 hL1) hk hn)
theorem zr_astoreN (hX : zOK g X cc y ret tb nl d mc ms) {i : Nat} (hi : i < nl) (hd : decode cc pc = .ok (.astore i, 2)) (kk : zw g X Post (pc + 2) (zst zl i (.null)) st G k n) : zw g X Post pc zl (.null :: st) G k n := by
  obtain ⟨p, e, R, s, m, args, below, meth, c, A, nL⟩ := X
  intro H locs L hR hS hL hk hn
  obtain ⟨l9, h1, h2⟩ := hL
  exact lv_astoreN hX.ex hX.cd hd h1 (by rw [hX.nq]; exact hi) rfl (fun L1 hL1 => kk H locs L1 hR hS (zloc.st1 h2 hL1) hk hn)
theorem zr_iinc (hX : zOK g X cc y ret tb nl d mc ms) {i : Nat} {z : Int} {x v : Int32} (hl : zlk zl i = some (.int x)) (hv : x + Int32.ofInt z = v) (hi : i < nl) (hd : decode cc pc = .ok (.iinc i z, 3)) (kk : zw g X Post (pc + 3) (zst zl i (.int v)) st G k n) : zw g X Post pc zl st G k n := by
  obtain ⟨p, e, R, s, m, args, below, meth, c, A, nL⟩ := X
  intro H locs L hR hS hL hk hn
  obtain ⟨l9, h1, h2⟩ := hL
  obtain ⟨j, hj⟩ := List.getElem?_of_mem (h2 _ _ hl)
  exact lv_iinc hX.ex hX.cd hd h1 hj hv (by rw [hX.nq]; exact hi) rfl (fun L1 hL1 => kk H locs L1 hR hS (zloc.st1 h2 hL1) hk hn)
theorem zr_iadd (hX : zOK g X cc y ret tb nl d mc ms) {x z : Int32} (hd : decode cc pc = .ok (.iadd, 1)) (kk : zw g X Post (pc + 1) zl (.int (x + z) :: st) G k n) : zw g X Post pc zl (.int z :: .int x :: st) G k n := by
  obtain ⟨p, e, R, s, m, args, below, meth, c, A, nL⟩ := X
  intro H locs L hR hS hL hk hn
  exact lv_iadd hX.ex hX.cd hd (kk H locs L hR hS hL hk hn)
theorem zr_isub (hX : zOK g X cc y ret tb nl d mc ms) {x z : Int32} (hd : decode cc pc = .ok (.isub, 1)) (kk : zw g X Post (pc + 1) zl (.int (x - z) :: st) G k n) : zw g X Post pc zl (.int z :: .int x :: st) G k n := by
  obtain ⟨p, e, R, s, m, args, below, meth, c, A, nL⟩ := X
  intro H locs L hR hS hL hk hn
  exact lv_isub hX.ex hX.cd hd (kk H locs L hR hS hL hk hn)
theorem zr_imul (hX : zOK g X cc y ret tb nl d mc ms) {x z : Int32} (hd : decode cc pc = .ok (.imul, 1)) (kk : zw g X Post (pc + 1) zl (.int (x * z) :: st) G k n) : zw g X Post pc zl (.int z :: .int x :: st) G k n := by
  obtain ⟨p, e, R, s, m, args, below, meth, c, A, nL⟩ := X
  intro H locs L hR hS hL hk hn
  exact lv_imul hX.ex hX.cd hd (kk H locs L hR hS hL hk hn)
theorem zr_iand (hX : zOK g X cc y ret tb nl d mc ms) {x z : Int32} (hd : decode cc pc = .ok (.iand, 1)) (kk : zw g X Post (pc + 1) zl (.int (x &&& z) :: st) G k n) : zw g X Post pc zl (.int z :: .int x :: st) G k n := by
  obtain ⟨p, e, R, s, m, args, below, meth, c, A, nL⟩ := X
  intro H locs L hR hS hL hk hn
  exact lv_iand hX.ex hX.cd hd (kk H locs L hR hS hL hk hn)
theorem zr_ior (hX : zOK g X cc y ret tb nl d mc ms) {x z : Int32} (hd : decode cc pc = .ok (.ior, 1)) (kk : zw g X Post (pc + 1) zl (.int (x ||| z) :: st) G k n) : zw g X Post pc zl (.int z :: .int x :: st) G k n := by
  obtain ⟨p, e, R, s, m, args, below, meth, c, A, nL⟩ := X
  intro H locs L hR hS hL hk hn
  exact lv_ior hX.ex hX.cd hd (kk H locs L hR hS hL hk hn)
theorem zr_ixor (hX : zOK g X cc y ret tb nl d mc ms) {x z : Int32} (hd : decode cc pc = .ok (.ixor, 1)) (kk : zw g X Post (pc + 1) zl (.int (x ^^^ z) :: st) G k n) : zw g X Post pc zl (.int z :: .int x :: st) G k n := by
  obtain ⟨p, e, R, s, m, args, below, meth, c, A, nL⟩ := X
  intro H locs L hR hS hL hk hn
  exact lv_ixor hX.ex hX.cd hd (kk H locs L hR hS hL hk hn)
theorem zr_ishl (hX : zOK g X cc y ret tb nl d mc ms) {x z : Int32} (hd : decode cc pc = .ok (.ishl, 1)) (kk : zw g X Post (pc + 1) zl (.int (x <<< (z &&& 31)) :: st) G k n) : zw g X Post pc zl (.int z :: .int x :: st) G k n := by
  obtain ⟨p, e, R, s, m, args, below, meth, c, A, nL⟩ := X
  intro H locs L hR hS hL hk hn
  exact lv_ishl hX.ex hX.cd hd (kk H locs L hR hS hL hk hn)
theorem zr_ishr (hX : zOK g X cc y ret tb nl d mc ms) {x z : Int32} (hd : decode cc pc = .ok (.ishr, 1)) (kk : zw g X Post (pc + 1) zl (.int (x >>> (z &&& 31)) :: st) G k n) : zw g X Post pc zl (.int z :: .int x :: st) G k n := by
  obtain ⟨p, e, R, s, m, args, below, meth, c, A, nL⟩ := X
  intro H locs L hR hS hL hk hn
  exact lv_ishr hX.ex hX.cd hd (kk H locs L hR hS hL hk hn)
theorem zr_iushr (hX : zOK g X cc y ret tb nl d mc ms) {x z : Int32} (hd : decode cc pc = .ok (.iushr, 1)) (kk : zw g X Post (pc + 1) zl (.int (x.toUInt32 >>> (z.toUInt32 &&& Int32.toUInt32 31)).toInt32 :: st) G k n) : zw g X Post pc zl (.int z :: .int x :: st) G k n := by
  obtain ⟨p, e, R, s, m, args, below, meth, c, A, nL⟩ := X
  intro H locs L hR hS hL hk hn
  exact lv_iushr hX.ex hX.cd hd rfl (kk H locs L hR hS hL hk hn)
theorem zr_idiv (hX : zOK g X cc y ret tb nl d mc ms) {x z : Int32} (hy : ¬ z = 0) (hd : decode cc pc = .ok (.idiv, 1)) (kk : zw g X Post (pc + 1) zl (.int (x / z) :: st) G k n) : zw g X Post pc zl (.int z :: .int x :: st) G k n := by
  obtain ⟨p, e, R, s, m, args, below, meth, c, A, nL⟩ := X
  intro H locs L hR hS hL hk hn
  exact lv_idiv hX.ex hX.cd hd hy (kk H locs L hR hS hL hk hn)
theorem zr_irem (hX : zOK g X cc y ret tb nl d mc ms) {x z : Int32} (hy : ¬ z = 0) (hd : decode cc pc = .ok (.irem, 1)) (kk : zw g X Post (pc + 1) zl (.int (x - x / z * z) :: st) G k n) : zw g X Post pc zl (.int z :: .int x :: st) G k n := by
  obtain ⟨p, e, R, s, m, args, below, meth, c, A, nL⟩ := X
  intro H locs L hR hS hL hk hn
  exact lv_irem hX.ex hX.cd hd hy (kk H locs L hR hS hL hk hn)
theorem zr_lor (hX : zOK g X cc y ret tb nl d mc ms) {x z : Int64} (hd : decode cc pc = .ok (.lor, 1)) (kk : zw g X Post (pc + 1) zl (.long (x ||| z) :: st) G k n) : zw g X Post pc zl (.long z :: .long x :: st) G k n := by
  obtain ⟨p, e, R, s, m, args, below, meth, c, A, nL⟩ := X
  intro H locs L hR hS hL hk hn
  exact lv_lor hX.ex hX.cd hd (kk H locs L hR hS hL hk hn)
theorem zr_lshl (hX : zOK g X cc y ret tb nl d mc ms) {x : Int64} {z : Int32} (hd : decode cc pc = .ok (.lshl, 1)) (kk : zw g X Post (pc + 1) zl (.long (x <<< (z.toInt64 &&& 63)) :: st) G k n) : zw g X Post pc zl (.int z :: .long x :: st) G k n := by
  obtain ⟨p, e, R, s, m, args, below, meth, c, A, nL⟩ := X
  intro H locs L hR hS hL hk hn
  exact lv_lshl hX.ex hX.cd hd rfl (kk H locs L hR hS hL hk hn)
theorem zr_lshr (hX : zOK g X cc y ret tb nl d mc ms) {x : Int64} {z : Int32} (hd : decode cc pc = .ok (.lshr, 1)) (kk : zw g X Post (pc + 1) zl (.long (x >>> (z.toInt64 &&& 63)) :: st) G k n) : zw g X Post pc zl (.int z :: .long x :: st) G k n := by
  obtain ⟨p, e, R, s, m, args, below, meth, c, A, nL⟩ := X
  intro H locs L hR hS hL hk hn
  exact lv_lshr hX.ex hX.cd hd rfl (kk H locs L hR hS hL hk hn)
theorem zr_i2l (hX : zOK g X cc y ret tb nl d mc ms) {x : Int32} (hd : decode cc pc = .ok (.i2l, 1)) (kk : zw g X Post (pc + 1) zl (.long x.toInt64 :: st) G k n) : zw g X Post pc zl (.int x :: st) G k n := by
  obtain ⟨p, e, R, s, m, args, below, meth, c, A, nL⟩ := X
  intro H locs L hR hS hL hk hn
  exact lv_i2l hX.ex hX.cd hd rfl (kk H locs L hR hS hL hk hn)
theorem zr_l2i (hX : zOK g X cc y ret tb nl d mc ms) {x : Int64} (hd : decode cc pc = .ok (.l2i, 1)) (kk : zw g X Post (pc + 1) zl (.int x.toInt32 :: st) G k n) : zw g X Post pc zl (.long x :: st) G k n := by
  obtain ⟨p, e, R, s, m, args, below, meth, c, A, nL⟩ := X
  intro H locs L hR hS hL hk hn
  exact lv_l2i hX.ex hX.cd hd rfl (kk H locs L hR hS hL hk hn)
theorem zr_lcmp (hX : zOK g X cc y ret tb nl d mc ms) {x z : Int64} (hd : decode cc pc = .ok (.lcmp, 1)) (kk : zw g X Post (pc + 1) zl (.int (lg_cmp x z) :: st) G k n) : zw g X Post pc zl (.long z :: .long x :: st) G k n := by
  obtain ⟨p, e, R, s, m, args, below, meth, c, A, nL⟩ := X
  intro H locs L hR hS hL hk hn
  exact W.lcmp hX.ex hX.cd hd (kk H locs L hR hS hL hk hn)
theorem zr_dup (hX : zOK g X cc y ret tb nl d mc ms) {v : Value} (hv : v.category = 1) (hd : decode cc pc = .ok (.dup, 1)) (kk : zw g X Post (pc + 1) zl (v :: v :: st) G k n) : zw g X Post pc zl (v :: st) G k n := by
  obtain ⟨p, e, R, s, m, args, below, meth, c, A, nL⟩ := X
  intro H locs L hR hS hL hk hn
  exact lv_dup hX.ex hX.cd hd hv (kk H locs L hR hS hL hk hn)
theorem zr_dup2 (hX : zOK g X cc y ret tb nl d mc ms) {v w : Value} (hv : v.category = 1) (hw : w.category = 1) (hd : decode cc pc = .ok (.dup2, 1)) (kk : zw g X Post (pc + 1) zl (v :: w :: v :: w :: st) G k n) : zw g X Post pc zl (v :: w :: st) G k n := by
  obtain ⟨p, e, R, s, m, args, below, meth, c, A, nL⟩ := X
  intro H locs L hR hS hL hk hn
  exact lv_dup2_11 hX.ex hX.cd hd hv hw (kk H locs L hR hS hL hk hn)
theorem zr_if_eq (hX : zOK g X cc y ret tb nl d mc ms) {x : Int32} {off : Int} {tgt : Nat} (hd : decode cc pc = .ok (.ifCond .eq off, 3)) (ht : (pc : Int) + off = (tgt : Int)) (kt : x = 0 → zw g X Post tgt zl st G k n) (kf : ¬ x = 0 → zw g X Post (pc + 3) zl st G k n) : zw g X Post pc zl (.int x :: st) G k n := by
  obtain ⟨p, e, R, s, m, args, below, meth, c, A, nL⟩ := X
  intro H locs L hR hS hL hk hn
  exact lv_if_eq hX.ex hX.cd hd ht (fun h => kt h H locs L hR hS hL hk hn) (fun h => kf h H locs L hR hS hL hk hn)
theorem zr_if_ne (hX : zOK g X cc y ret tb nl d mc ms) {x : Int32} {off : Int} {tgt : Nat} (hd : decode cc pc = .ok (.ifCond .ne off, 3)) (ht : (pc : Int) + off = (tgt : Int)) (kt : ¬ x = 0 → zw g X Post tgt zl st G k n) (kf : x = 0 → zw g X Post (pc + 3) zl st G k n) : zw g X Post pc zl (.int x :: st) G k n := by
  obtain ⟨p, e, R, s, m, args, below, meth, c, A, nL⟩ := X
  intro H locs L hR hS hL hk hn
  exact lv_if_ne hX.ex hX.cd hd ht (fun h => kt h H locs L hR hS hL hk hn) (fun h => kf h H locs L hR hS hL hk hn)
theorem zr_if_lt (hX : zOK g X cc y ret tb nl d mc ms) {x : Int32} {off : Int} {tgt : Nat} (hd : decode cc pc = .ok (.ifCond .lt off, 3)) (ht : (pc : Int) + off = (tgt : Int)) (kt : x < 0 → zw g X Post tgt zl st G k n) (kf : ¬ x < 0 → zw g X Post (pc + 3) zl st G k n) : zw g X Post pc zl (.int x :: st) G k n := by
  obtain ⟨p, e, R, s, m, args, below, meth, c, A, nL⟩ := X
  intro H locs L hR hS hL hk hn
  exact lv_if_lt hX.ex hX.cd hd ht (fun h => kt h H locs L hR hS hL hk hn) (fun h => kf h H locs L hR hS hL hk hn)
theorem zr_if_ge (hX : zOK g X cc y ret tb nl d mc ms) {x : Int32} {off : Int} {tgt : Nat} (hd : decode cc pc = .ok (.ifCond .ge off, 3)) (ht : (pc : Int) + off = (tgt : Int)) (kt : 0 ≤ x → zw g X Post tgt zl st G k n) (kf : ¬ 0 ≤ x → zw g X Post (pc + 3) zl st G k n) : zw g X Post pc zl (.int x :: st) G k n := by
  obtain ⟨p, e, R, s, m, args, below, meth, c, A, nL⟩ := X
  intro H locs L hR hS hL hk hn
  exact lv_if_ge hX.ex hX.cd hd ht (fun h => kt h H locs L hR hS hL hk hn) (fun h => kf h H locs L hR hS hL hk hn)
theorem zr_if_gt (hX : zOK g X cc y ret tb nl d mc ms) {x : Int32} {off : Int} {tgt : Nat} (hd : decode cc pc = .ok (.ifCond .gt off, 3)) (ht : (pc : Int) + off = (tgt : Int)) (kt : 0 < x → zw g X Post tgt zl st G k n) (kf : ¬ 0 < x → zw g X Post (pc + 3) zl st G k n) : zw g X Post pc zl (.int x :: st) G k n := by
  obtain ⟨p, e, R, s, m, args, below, meth, c, A, nL⟩ := X
  intro H locs L hR hS hL hk hn
  exact lv_if_gt hX.ex hX.cd hd ht (fun h => kt h H locs L hR hS hL hk hn) (fun h => kf h H locs L hR hS hL hk hn)
theorem zr_if_le (hX : zOK g X cc y ret tb nl d mc ms) {x : Int32} {off : Int} {tgt : Nat} (hd : decode cc pc = .ok (.ifCond .le off, 3)) (ht : (pc : Int) + off = (tgt : Int)) (kt : x ≤ 0 → zw g X Post tgt zl st G k n) (kf : ¬ x ≤ 0 → zw g X Post (pc + 3) zl st G k n) : zw g X Post pc zl (.int x :: st) G k n := by
  obtain ⟨p, e, R, s, m, args, below, meth, c, A, nL⟩ := X
  intro H locs L hR hS hL hk hn
  exact lv_if_le hX.ex hX.cd hd ht (fun h => kt h H locs L hR hS hL hk hn) (fun h => kf h H locs L hR hS hL hk hn)
theorem zr_icmp_eq (hX : zOK g X cc y ret tb nl d mc ms) {x z : Int32} {off : Int} {tgt : Nat} (hd : decode cc pc = .ok (.if_icmp .eq off, 3)) (ht : (pc : Int) + off = (tgt : Int)) (kt : x = z → zw g X Post tgt zl st G k n) (kf : ¬ x = z → zw g X Post (pc + 3) zl st G k n) : zw g X Post pc zl (.int z :: .int x :: st) G k n := by
  obtain ⟨p, e, R, s, m, args, below, meth, c, A, nL⟩ := X
  intro H locs L hR hS hL hk hn
  exact lv_icmp_eq hX.ex hX.cd hd ht (fun h => kt h H locs L hR hS hL hk hn) (fun h => kf h H locs L hR hS hL hk hn)
theorem zr_icmp_ne (hX : zOK g X cc y ret tb nl d mc ms) {x z : Int32} {off : Int} {tgt : Nat} (hd : decode cc pc = .ok (.if_icmp .ne off, 3)) (ht : (pc : Int) + off = (tgt : Int)) (kt : ¬ x = z → zw g X Post tgt zl st G k n) (kf : x = z → zw g X Post (pc + 3) zl st G k n) : zw g X Post pc zl (.int z :: .int x :: st) G k n := by
  obtain ⟨p, e, R, s, m, args, below, meth, c, A, nL⟩ := X
  intro H locs L hR hS hL hk hn
  exact lv_icmp_ne hX.ex hX.cd hd ht (fun h => kt h H locs L hR hS hL hk hn) (fun h => kf h H locs L hR hS hL hk hn)
theorem zr_icmp_lt (hX : zOK g X cc y ret tb nl d mc ms) {x z : Int32} {off : Int} {tgt : Nat} (hd : decode cc pc = .ok (.if_icmp .lt off, 3)) (ht : (pc : Int) + off = (tgt : Int)) (kt : x < z → zw g X Post tgt zl st G k n) (kf : ¬ x < z → zw g X Post (pc + 3) zl st G k n) : zw g X Post pc zl (.int z :: .int x :: st) G k n := by
  obtain ⟨p, e, R, s, m, args, below, meth, c, A, nL⟩ := X
  intro H locs L hR hS hL hk hn
  exact lv_icmp_lt hX.ex hX.cd hd ht (fun h => kt h H locs L hR hS hL hk hn) (fun h => kf h H locs L hR hS hL hk hn)
theorem zr_icmp_ge (hX : zOK g X cc y ret tb nl d mc ms) {x z : Int32} {off : Int} {tgt : Nat} (hd : decode cc pc = .ok (.if_icmp .ge off, 3)) (ht : (pc : Int) + off = (tgt : Int)) (kt : z ≤ x → zw g X Post tgt zl st G k n) (kf : ¬ z ≤ x → zw g X Post (pc + 3) zl st G k n) : zw g X Post pc zl (.int z :: .int x :: st) G k n := by
  obtain ⟨p, e, R, s, m, args, below, meth, c, A, nL⟩ := X
  intro H locs L hR hS hL hk hn
  exact lv_icmp_ge hX.ex hX.cd hd ht (fun h => kt h H locs L hR hS hL hk hn) (fun h => kf h H locs L hR hS hL hk hn)
theorem zr_icmp_gt (hX : zOK g X cc y ret tb nl d mc ms) {x z : Int32} {off : Int} {tgt : Nat} (hd : decode cc pc = .ok (.if_icmp .gt off, 3)) (ht : (pc : Int) + off = (tgt : Int)) (kt : z < x → zw g X Post tgt zl st G k n) (kf : ¬ z < x → zw g X Post (pc + 3) zl st G k n) : zw g X Post pc zl (.int z :: .int x :: st) G k n := by
  obtain ⟨p, e, R, s, m, args, below, meth, c, A, nL⟩ := X
  intro H locs L hR hS hL hk hn
  exact lv_icmp_gt hX.ex hX.cd hd ht (fun h => kt h H locs L hR hS hL hk hn) (fun h => kf h H locs L hR hS hL hk hn)
theorem zr_icmp_le (hX : zOK g X cc y ret tb nl d mc ms) {x z : Int32} {off : Int} {tgt : Nat} (hd : decode cc pc = .ok (.if_icmp .le off, 3)) (ht : (pc : Int) + off = (tgt : Int)) (kt : x ≤ z → zw g X Post tgt zl st G k n) (kf : ¬ x ≤ z → zw g X Post (pc + 3) zl st G k n) : zw g X Post pc zl (.int z :: .int x :: st) G k n := by
  obtain ⟨p, e, R, s, m, args, below, meth, c, A, nL⟩ := X
  intro H locs L hR hS hL hk hn
  exact lv_icmp_le hX.ex hX.cd hd ht (fun h => kt h H locs L hR hS hL hk hn) (fun h => kf h H locs L hR hS hL hk hn)
theorem zr_goto (hX : zOK g X cc y ret tb nl d mc ms)  {off : Int} {tgt : Nat} (ht : (pc : Int) + off = (tgt : Int)) (hd : decode cc pc = .ok (.goto off, 3)) (kk : zw g X Post tgt zl st G k n) : zw g X Post pc zl st G k n := by
  obtain ⟨p, e, R, s, m, args, below, meth, c, A, nL⟩ := X
  intro H locs L hR hS hL hk hn
  exact lv_goto hX.ex hX.cd hd ht (kk H locs L hR hS hL hk hn)
theorem zr_ifnonnull (hX : zOK g X cc y ret tb nl d mc ms) {x : Nat} {off : Int} {tgt : Nat} (ht : (pc : Int) + off = (tgt : Int)) (hd : decode cc pc = .ok (.ifnonnull off, 3)) (kk : zw g X Post tgt zl st G k n) : zw g X Post pc zl (.ref x :: st) G k n := by
  obtain ⟨p, e, R, s, m, args, below, meth, c, A, nL⟩ := X
  intro H locs L hR hS hL hk hn
  exact lv_ifnonnull hX.ex hX.cd hd ht (kk H locs L hR hS hL hk hn)
theorem zr_ifnull (hX : zOK g X cc y ret tb nl d mc ms) {x : Nat} {off : Int} (hd : decode cc pc = .ok (.ifnull off, 3)) (kk : zw g X Post (pc + 3) zl st G k n) : zw g X Post pc zl (.ref x :: st) G k n := by
  obtain ⟨p, e, R, s, m, args, below, meth, c, A, nL⟩ := X
  intro H locs L hR hS hL hk hn
  exact lv_ifnull hX.ex hX.cd hd (kk H locs L hR hS hL hk hn)
theorem zr_ifnullN (hX : zOK g X cc y ret tb nl d mc ms)  {off : Int} {tgt : Nat} (ht : (pc : Int) + off = (tgt : Int)) (hd : decode cc pc = .ok (.ifnull off, 3)) (kk : zw g X Post tgt zl st G k n) : zw g X Post pc zl (.null :: st) G k n := by
  obtain ⟨p, e, R, s, m, args, below, meth, c, A, nL⟩ := X
  intro H locs L hR hS hL hk hn
  exact lv_ifnullN hX.ex hX.cd hd ht (kk H locs L hR hS hL hk hn)
theorem zr_ifnonnullN (hX : zOK g X cc y ret tb nl d mc ms)  {off : Int} (hd : decode cc pc = .ok (.ifnonnull off, 3)) (kk : zw g X Post (pc + 3) zl st G k n) : zw g X Post pc zl (.null :: st) G k n := by
  obtain ⟨p, e, R, s, m, args, below, meth, c, A, nL⟩ := X
  intro H locs L hR hS hL hk hn
  exact lv_ifnonnullN hX.ex hX.cd hd (kk H locs L hR hS hL hk hn)
theorem zr_tabOut (hX : zOK g X cc y ret tb nl d mc ms) {dflt lo hi : Int} {offs : Array Int} {len : Nat} {x : Int32} {tgt : Nat} (hd : decode cc pc = .ok (.tableswitch dflt lo hi offs, len)) (h : x.toInt < lo ∨ hi < x.toInt) (ht : (pc : Int) + dflt = (tgt : Int)) (kk : zw g X Post tgt zl st G k n) : zw g X Post pc zl (.int x :: st) G k n := by
  obtain ⟨p, e, R, s, m, args, below, meth, c, A, nL⟩ := X
  intro H locs L hR hS hL hk hn
  exact lv_tableOut hX.ex hX.cd hd h ht (kk H locs L hR hS hL hk hn)
theorem zr_tabIn (hX : zOK g X cc y ret tb nl d mc ms) {dflt lo hi : Int} {offs : Array Int} {len : Nat} {x : Int32} {off : Int} {tgt : Nat} (hd : decode cc pc = .ok (.tableswitch dflt lo hi offs, len)) (h1 : ¬ x.toInt < lo) (h2 : ¬ hi < x.toInt) (ho : offs[(x.toInt - lo).toNat]? = some off) (ht : (pc : Int) + off = (tgt : Int)) (kk : zw g X Post tgt zl st G k n) : zw g X Post pc zl (.int x :: st) G k n := by
  obtain ⟨p, e, R, s, m, args, below, meth, c, A, nL⟩ := X
  intro H locs L hR hS hL hk hn
  exact lv_tableIn hX.ex hX.cd hd h1 h2 ho ht (kk H locs L hR hS hL hk hn)
theorem zr_look (hX : zOK g X cc y ret tb nl d mc ms) {dflt : Int} {ps : Array (Int × Int)} {len : Nat} {x : Int32} {off : Int} {tgt : Nat} (hd : decode cc pc = .ok (.lookupswitch dflt ps, len)) (hp : (ps.toList.zip (ps.toList.drop 1)).all (fun (a, next) => a.1 < next.1) = true) (ho : Op.lookupswitch.offset ps.toList dflt x.toInt = off) (ht : (pc : Int) + off = (tgt : Int)) (kk : zw g X Post tgt zl st G k n) : zw g X Post pc zl (.int x :: st) G k n := by
  obtain ⟨p, e, R, s, m, args, below, meth, c, A, nL⟩ := X
  intro H locs L hR hS hL hk hn
  exact lv_lookup hX.ex hX.cd hd hp ho ht (kk H locs L hR hS hL hk hn)
end ZR
end
section
/-! rows that read and write the heap -/
theorem u_ws_good {C : String} {T : u_T} {N : Nat} {w : Cond} (h : w ∈ u_ws C T N) : (w.onTables && w.keeps) = true := by
  obtain ⟨k, -, rfl⟩ := List.mem_map.mp h
  unfold u_lay
  split <;> rfl
/-- class ci of zcl: its name, fields, how many, their types; what the tables say of it -/
def zCl (ci : Nat) (C : String) (T : u_T) (N : Nat) (ty : Nat → FieldType) : Prop := zcl[ci]? = some (C, T, N) ∧ (∀ w ∈ u_ws C T N, w ∈ zTW) ∧ (∀ k, k < N → parseFieldDescriptor (T k).2.2.1 = some (ty k)) ∧ (∀ a, a < N → ∀ b, b < N → a ≠ b → (T a).2.1 ≠ (T b).2.1)
section ZH
variable {g : zGt} {X : zX} {cc : ByteArray} {y : MethodName} {ret : Option FieldType} {tb : List (Nat × Nat × Nat × Nat)} {nl d mc ms : Nat} {Post : zRes → zG → Prop} {pc : Nat} {zl : List (Option Value)} {st : List Value} {G : zG} {k n : Nat}
theorem zr_get (hX : zOK g X cc y ret tb nl d mc ms) {ci N a idx : Nat} {C : String} {T : u_T} {ty : Nat → FieldType} {fs : List Value} {v : Value} (hC : zCl ci C T N ty) (j : Nat) (hj : j < N) (hw : Cond.fieldLink y.cls idx C (T j).2.1 (T j).2.2.1 ∈ zTW) (ho : (T j).1 = C) (hG : G a = some (zO ci fs)) (hv : fs[j]? = some v) (hd : decode cc pc = .ok (.getfield idx, 3))
    (kk : zw g X Post (pc + 3) zl (v :: st) G k n) : zw g X Post pc zl (.ref a :: st) G k n := by
  obtain ⟨p, e, R, s, m, args, below, meth, c, A, nL⟩ := X
  intro H locs L hR hS hL hk hn
  obtain ⟨ws, h1, h2, h3, h4⟩ := hR
  obtain ⟨q, hq⟩ := h3 a _ hG
  exact va_get (D := zD g) (Ts := u_ws C T N) hX.ex hX.cd (fun w h => hX.wk (hC.2.1 w h) (u_ws_good h)) (fun w h => h) hX.ow hX.K h1 q hq hC.1 j hj (hX.wk hw rfl) (by rw [ho]; exact fun _ h => h) hv hd (kk H locs L ⟨ws, h1, h2, h3, h4⟩ hS hL hk hn)
theorem zr_put (hX : zOK g X cc y ret tb nl d mc ms) {ci N a idx : Nat} {C : String} {T : u_T} {ty : Nat → FieldType} {fs : List Value} {v : Value} (hC : zCl ci C T N ty) (j : Nat) (hj : j < N) (hw : Cond.fieldLink y.cls idx C (T j).2.1 (T j).2.2.1 ∈ zTW) (ho : (T j).1 = C) (hf : (T j).2.2.2 = false) (hn1 : narrow (ty j) v = v) (hn2 : fits (ty j) v = true) (hl : j < fs.length) (hG : G a = some (zO ci fs)) (hd : decode cc pc = .ok (.putfield idx, 3))
    (kk : zw g X Post (pc + 3) zl st (zput G a (zO ci (fs.set j v))) k n) : zw g X Post pc zl (v :: .ref a :: st) G k n := by
  obtain ⟨p, e, R, s, m, args, below, meth, c, A, nL⟩ := X
  intro H locs L hR hS hL hk hn
  obtain ⟨ws, h1, h2, h3, h4⟩ := hR
  obtain ⟨q, hq⟩ := h3 a _ hG
  exact va_put (D := zD g) (Ts := u_ws C T N) hX.ex hX.cd (fun w h => hX.wk (hC.2.1 w h) (u_ws_good h)) (fun w h => h) ty hC.2.2.1 hC.2.2.2 hX.ow hX.K h1 h2 hS q hq hC.1 j hj (hX.wk hw rfl) (by rw [ho]; exact fun _ h => h) hf (hC.2.2.1 j hj) hn1 hn2 hl hd
    (fun H1 locs1 p1 p2 p3 => kk H1 locs1 L (zRep_set (c' := zO ci (fs.set j v)) h2 h3 h4 hq p1 p2) p3 hL hk hn)
theorem zr_putF (hX : zOK g X cc y ret tb nl d mc ms) {ci N a idx : Nat} {C : String} {T : u_T} {ty : Nat → FieldType} {fs : List Value} {v : Value} (hC : zCl ci C T N ty) (j : Nat) (hj : j < N) (hw : Cond.fieldLink y.cls idx C (T j).2.1 (T j).2.2.1 ∈ zTW) (ho : (T j).1 = C) (hf : (T j).2.2.2 = true) (hi : y.name = "<init>") (hoo : C = y.cls) (hn1 : narrow (ty j) v = v) (hn2 : fits (ty j) v = true) (hl : j < fs.length) (hG : G a = some (zO ci fs)) (hd : decode cc pc = .ok (.putfield idx, 3))
    (kk : zw g X Post (pc + 3) zl st (zput G a (zO ci (fs.set j v))) k n) : zw g X Post pc zl (v :: .ref a :: st) G k n := by
  obtain ⟨p, e, R, s, m, args, below, meth, c, A, nL⟩ := X
  intro H locs L hR hS hL hk hn
  obtain ⟨ws, h1, h2, h3, h4⟩ := hR
  obtain ⟨q, hq⟩ := h3 a _ hG
  exact va_putF (D := zD g) (Ts := u_ws C T N) hX.ex hX.cd (fun w h => hX.wk (hC.2.1 w h) (u_ws_good h)) (fun w h => h) ty hC.2.2.1 hC.2.2.2 hX.ow hX.K h1 h2 hS q hq hC.1 j hj (hX.wk hw rfl) (by rw [ho]; exact fun _ h => h) hf (hX.nm.trans hi) (ho.trans hoo) (hC.2.2.1 j hj) hn1 hn2 hl hd
    (fun H1 locs1 p1 p2 p3 => kk H1 locs1 L (zRep_set (c' := zO ci (fs.set j v)) h2 h3 h4 hq p1 p2) p3 hL hk hn)
theorem zr_iald (hX : zOK g X cc y ret tb nl d mc ms) {a N : Nat} {f : Nat → Int32} {i : Int32} (hG : G a = some (zI N f)) (hi : vp_in i N) (hd : decode cc pc = .ok (.iaload, 1)) (kk : zw g X Post (pc + 1) zl (.int (f i.toNatClampNeg) :: st) G k n) : zw g X Post pc zl (.int i :: .ref a :: st) G k n := by
  obtain ⟨p, e, R, s, m, args, below, meth, c, A, nL⟩ := X
  intro H locs L hR hS hL hk hn
  obtain ⟨ws, h1, h2, h3, h4⟩ := hR
  obtain ⟨q, hq⟩ := h3 a _ hG
  exact va_iald (tys := zty (ztc g)) hX.ex hX.cd hX.K h1 q 0 hq rfl hi hd (kk H locs L ⟨ws, h1, h2, h3, h4⟩ hS hL hk hn)
theorem zr_zald (hX : zOK g X cc y ret tb nl d mc ms) {a N : Nat} {f : Nat → Int32} {i : Int32} (hG : G a = some (zB N f)) (hi : vp_in i N) (hd : decode cc pc = .ok (.baload, 1)) (kk : zw g X Post (pc + 1) zl (.int (f i.toNatClampNeg) :: st) G k n) : zw g X Post pc zl (.int i :: .ref a :: st) G k n := by
  obtain ⟨p, e, R, s, m, args, below, meth, c, A, nL⟩ := X
  intro H locs L hR hS hL hk hn
  obtain ⟨ws, h1, h2, h3, h4⟩ := hR
  obtain ⟨q, hq⟩ := h3 a _ hG
  exact va_zald (tys := zty (ztc g)) hX.ex hX.cd hX.K h1 q 1 hq rfl hi hd (kk H locs L ⟨ws, h1, h2, h3, h4⟩ hS hL hk hn)
theorem zr_lald (hX : zOK g X cc y ret tb nl d mc ms) {a N : Nat} {f : Nat → Int64} {i : Int32} (hG : G a = some (zJ N f)) (hi : vp_in i N) (hd : decode cc pc = .ok (.laload, 1)) (kk : zw g X Post (pc + 1) zl (.long (f i.toNatClampNeg) :: st) G k n) : zw g X Post pc zl (.int i :: .ref a :: st) G k n := by
  obtain ⟨p, e, R, s, m, args, below, meth, c, A, nL⟩ := X
  intro H locs L hR hS hL hk hn
  obtain ⟨ws, h1, h2, h3, h4⟩ := hR
  obtain ⟨q, hq⟩ := h3 a _ hG
  exact va_lald (tys := zty (ztc g)) hX.ex hX.cd hX.K h1 q 2 hq rfl hi hd (kk H locs L ⟨ws, h1, h2, h3, h4⟩ hS hL hk hn)
/-- an array of references: t its kind (3, 4, 5) -/
theorem zr_aald (hX : zOK g X cc y ret tb nl d mc ms) {a t N : Nat} {C : String} {f : Nat → Option Nat} {i : Int32} (ht : (zty (ztc g))[t]? = some (ztc g t, .object C)) (hG : G a = some (zR t N f)) (hi : vp_in i N) (hd : decode cc pc = .ok (.aaload, 1)) (kk : zw g X Post (pc + 1) zl (va_rf (f i.toNatClampNeg) :: st) G k n) : zw g X Post pc zl (.int i :: .ref a :: st) G k n := by
  obtain ⟨p, e, R, s, m, args, below, meth, c, A, nL⟩ := X
  intro H locs L hR hS hL hk hn
  obtain ⟨ws, h1, h2, h3, h4⟩ := hR
  obtain ⟨q, hq⟩ := h3 a _ hG
  exact va_aldq (tys := zty (ztc g)) hX.ex hX.cd hX.K h1 q t hq ht hi hd (kk H locs L ⟨ws, h1, h2, h3, h4⟩ hS hL hk hn)
theorem zr_iast (hX : zOK g X cc y ret tb nl d mc ms) {a N : Nat} {f : Nat → Int32} {i x : Int32} (hG : G a = some (zI N f)) (hi : vp_in i N) (hd : decode cc pc = .ok (.iastore, 1)) (kk : zw g X Post (pc + 1) zl st (zput G a (zI N (upd f i.toNatClampNeg x))) k n) : zw g X Post pc zl (.int x :: .int i :: .ref a :: st) G k n := by
  obtain ⟨p, e, R, s, m, args, below, meth, c, A, nL⟩ := X
  intro H locs L hR hS hL hk hn
  obtain ⟨ws, h1, h2, h3, h4⟩ := hR
  obtain ⟨q, hq⟩ := h3 a _ hG
  exact va_iast (tys := zty (ztc g)) hX.ex hX.cd hX.K h1 h2 hS q 0 hq rfl hi hd (fun H1 locs1 p1 p2 p3 => kk H1 locs1 L (zRep_set (c' := zI N (upd f i.toNatClampNeg x)) h2 h3 h4 hq p1 p2) p3 hL hk hn)
theorem zr_zast (hX : zOK g X cc y ret tb nl d mc ms) {a N : Nat} {f : Nat → Int32} {i x : Int32} (hG : G a = some (zB N f)) (hi : vp_in i N) (hd : decode cc pc = .ok (.bastore, 1)) (kk : zw g X Post (pc + 1) zl st (zput G a (zB N (upd f i.toNatClampNeg (vp_nar .boolean x)))) k n) : zw g X Post pc zl (.int x :: .int i :: .ref a :: st) G k n := by
  obtain ⟨p, e, R, s, m, args, below, meth, c, A, nL⟩ := X
  intro H locs L hR hS hL hk hn
  obtain ⟨ws, h1, h2, h3, h4⟩ := hR
  obtain ⟨q, hq⟩ := h3 a _ hG
  exact va_zast (tys := zty (ztc g)) hX.ex hX.cd hX.K h1 h2 hS q 1 hq rfl hi hd (fun H1 locs1 p1 p2 p3 => kk H1 locs1 L (zRep_set (c' := zB N (upd f i.toNatClampNeg (vp_nar .boolean x))) h2 h3 h4 hq p1 p2) p3 hL hk hn)
theorem zr_last (hX : zOK g X cc y ret tb nl d mc ms) {a N : Nat} {f : Nat → Int64} {i : Int32} {x : Int64} (hG : G a = some (zJ N f)) (hi : vp_in i N) (hd : decode cc pc = .ok (.lastore, 1)) (kk : zw g X Post (pc + 1) zl st (zput G a (zJ N (vp_updL f i.toNatClampNeg x))) k n) : zw g X Post pc zl (.long x :: .int i :: .ref a :: st) G k n := by
  obtain ⟨p, e, R, s, m, args, below, meth, c, A, nL⟩ := X
  intro H locs L hR hS hL hk hn
  obtain ⟨ws, h1, h2, h3, h4⟩ := hR
  obtain ⟨q, hq⟩ := h3 a _ hG
  exact va_last (tys := zty (ztc g)) hX.ex hX.cd hX.K h1 h2 hS q 2 hq rfl hi hd (fun H1 locs1 p1 p2 p3 => kk H1 locs1 L (zRep_set (c' := zJ N (vp_updL f i.toNatClampNeg x)) h2 h3 h4 hq p1 p2) p3 hL hk hn)
theorem zr_aast (hX : zOK g X cc y ret tb nl d mc ms) {a t N v ci M : Nat} {C : String} {T : u_T} {f : Nat → Option Nat} {vs : List Value} {i : Int32} (hc : zcl[ci]? = some (C, T, M)) (ht : (zty (ztc g))[t]? = some (ztc g t, .object C)) (hG : G a = some (zR t N f)) (hV : G v = some (zO ci vs)) (hi : vp_in i N) (hd : decode cc pc = .ok (.aastore, 1)) (kk : zw g X Post (pc + 1) zl st (zput G a (zR t N (va_up f i.toNatClampNeg (some v)))) k n) : zw g X Post pc zl (.ref v :: .int i :: .ref a :: st) G k n := by
  obtain ⟨p, e, R, s, m, args, below, meth, c, A, nL⟩ := X
  intro H locs L hR hS hL hk hn
  obtain ⟨ws, h1, h2, h3, h4⟩ := hR
  obtain ⟨q, hq⟩ := h3 a _ hG
  obtain ⟨q2, hq2⟩ := h3 v _ hV
  exact va_astq (tys := zty (ztc g)) hX.ex hX.cd hX.K h1 h2 hS q t q2 ci hq ht hq2 hc hi hd (fun H1 locs1 p1 p2 p3 => kk H1 locs1 L (zRep_set (c' := zR t N (va_up f i.toNatClampNeg (some v))) h2 h3 h4 hq p1 p2) p3 hL hk hn)
theorem zr_ilen (hX : zOK g X cc y ret tb nl d mc ms) {a N : Nat} {f : Nat → Int32} (hG : G a = some (zI N f)) (hd : decode cc pc = .ok (.arraylength, 1)) (kk : zw g X Post (pc + 1) zl (.int (Int32.ofNat N) :: st) G k n) : zw g X Post pc zl (.ref a :: st) G k n := by
  obtain ⟨p, e, R, s, m, args, below, meth, c, A, nL⟩ := X
  intro H locs L hR hS hL hk hn
  obtain ⟨ws, h1, h2, h3, h4⟩ := hR
  obtain ⟨q, hq⟩ := h3 a _ hG
  exact va_alen (tys := zty (ztc g)) hX.ex hX.cd hX.K h1 q 0 hq rfl rfl hd (kk H locs L ⟨ws, h1, h2, h3, h4⟩ hS hL hk hn)
theorem zr_llen (hX : zOK g X cc y ret tb nl d mc ms) {a N : Nat} {f : Nat → Int64} (hG : G a = some (zJ N f)) (hd : decode cc pc = .ok (.arraylength, 1)) (kk : zw g X Post (pc + 1) zl (.int (Int32.ofNat N) :: st) G k n) : zw g X Post pc zl (.ref a :: st) G k n := by
  obtain ⟨p, e, R, s, m, args, below, meth, c, A, nL⟩ := X
  intro H locs L hR hS hL hk hn
  obtain ⟨ws, h1, h2, h3, h4⟩ := hR
  obtain ⟨q, hq⟩ := h3 a _ hG
  exact va_alen (tys := zty (ztc g)) hX.ex hX.cd hX.K h1 q 2 hq rfl rfl hd (kk H locs L ⟨ws, h1, h2, h3, h4⟩ hS hL hk hn)
theorem zr_new (hX : zOK g X cc y ret tb nl d mc ms) {ci N idx : Nat} {C : String} {T : u_T} {ty : Nat → FieldType} {fs : List Value} (hC : zCl ci C T N ty) (hw1 : Cond.classLink y.cls idx C ∈ zTW) (hw2 : Cond.instantiable C N ∈ zTW) (hw3 : Cond.initialized C ∈ zTW) (hfs : ∀ j, j < N → defaultValue (ty j) = vp_V fs j) (hk1 : k + 1 ≤ mc) (hn1 : n + N ≤ ms) (hd : decode cc pc = .ok (.new idx, 3))
    (kk : ∀ q : Nat, G q = none → zw g X Post (pc + 3) zl (.ref q :: st) (zput G q (zO ci fs)) (k + 1) (n + N)) : zw g X Post pc zl st G k n := by
  obtain ⟨p, e, R, s, m, args, below, meth, c, A, nL⟩ := X
  intro H locs L hR hS hL hk hn
  obtain ⟨ws, h1, h2, h3, h4⟩ := hR
  have hrm := hX.rm
  have c1 : k + 1 ≤ R.cells := by rw [hrm]; exact hk1
  have c2 : n + N ≤ R.slots := by rw [hrm]; exact hn1
  exact va_new (D := zD g) (Ts := u_ws C T N) (tys := zty (ztc g)) hX.ex hX.cd (fun w h => hX.wk (hC.2.1 w h) (u_ws_good h)) (fun w h => h) ty hC.2.2.1 hX.ow (hX.wk hw1 rfl) (hX.wk hw2 rfl) (hX.wk hw3 rfl) hX.K h1 h2 hS hX.hA hC.1 hfs c1 c2 hd
    (fun q H1 p1 p2 p3 => by
      obtain ⟨g1, g2⟩ := zRep_push (c' := zO ci fs) h3 h4 p1 p2
      exact kk q g1 H1 locs L g2 p3 hL c1 c2)
theorem zr_newI (hX : zOK g X cc y ret tb nl d mc ms) {N : Nat} {i : Int32} (hw : Cond.arrayClass .int ∈ zTW) (hi : ¬ i < 0) (hN : i.toNatClampNeg = N) (hb : N * 4 ≤ 536870912) (hk1 : k + 1 ≤ mc) (hn1 : n + N ≤ ms) (hd : decode cc pc = .ok (.newarray .int, 2))
    (kk : ∀ q : Nat, G q = none → zw g X Post (pc + 2) zl (.ref q :: st) (zput G q (zI N (fun _ => 0))) (k + 1) (n + N)) : zw g X Post pc zl (.int i :: st) G k n := by
  obtain ⟨p, e, R, s, m, args, below, meth, c, A, nL⟩ := X
  intro H locs L hR hS hL hk hn
  obtain ⟨ws, h1, h2, h3, h4⟩ := hR
  have hrm := hX.rm
  have c1 : k + 1 ≤ R.cells := by rw [hrm]; exact hk1
  have c2 : n + N ≤ R.slots := by rw [hrm]; exact hn1
  refine va_newa (atype := .int) (D := zD g) (cl := zcl) (tys := zty (ztc g)) (ty := .int) (a0 := (N, .inl (fun _ => 0))) hX.ex hX.cd (hX.wd hw (Or.inr ⟨_, rfl⟩)) rfl hX.K h1 h2 hS hX.hA (fun cA => rfl) hi hN hb c1 c2 hd (fun q cA H1 pK p1 p2 p3 => ?_)
  have e1 : cA = ztc g 0 := by
    have r1 := (pK.2 6 (cA, .int) rfl).2
    have r2 := (pK.2 0 (ztc g 0, .int) rfl).2
    exact Option.some.inj (r1.symm.trans r2)
  subst e1
  obtain ⟨g1, g2⟩ := zRep_push (c' := zI N (fun _ => 0)) h3 h4 p1 p2
  exact kk q g1 H1 locs L g2 p3 hL c1 c2
theorem zr_newZ (hX : zOK g X cc y ret tb nl d mc ms) {N : Nat} {i : Int32} (hw : Cond.arrayClass .boolean ∈ zTW) (hi : ¬ i < 0) (hN : i.toNatClampNeg = N) (hb : N * 1 ≤ 536870912) (hk1 : k + 1 ≤ mc) (hn1 : n + N ≤ ms) (hd : decode cc pc = .ok (.newarray .boolean, 2))
    (kk : ∀ q : Nat, G q = none → zw g X Post (pc + 2) zl (.ref q :: st) (zput G q (zB N (fun _ => 0))) (k + 1) (n + N)) : zw g X Post pc zl (.int i :: st) G k n := by
  obtain ⟨p, e, R, s, m, args, below, meth, c, A, nL⟩ := X
  intro H locs L hR hS hL hk hn
  obtain ⟨ws, h1, h2, h3, h4⟩ := hR
  have hrm := hX.rm
  have c1 : k + 1 ≤ R.cells := by rw [hrm]; exact hk1
  have c2 : n + N ≤ R.slots := by rw [hrm]; exact hn1
  refine va_newa (atype := .boolean) (D := zD g) (cl := zcl) (tys := zty (ztc g)) (ty := .boolean) (a0 := (N, .inl (fun _ => 0))) hX.ex hX.cd (hX.wd hw (Or.inr ⟨_, rfl⟩)) rfl hX.K h1 h2 hS hX.hA (fun cA => rfl) hi hN hb c1 c2 hd (fun q cA H1 pK p1 p2 p3 => ?_)
  have e1 : cA = ztc g 1 := by
    have r1 := (pK.2 6 (cA, .boolean) rfl).2
    have r2 := (pK.2 1 (ztc g 1, .boolean) rfl).2
    exact Option.some.inj (r1.symm.trans r2)
  subst e1
  obtain ⟨g1, g2⟩ := zRep_push (c' := zB N (fun _ => 0)) h3 h4 p1 p2
  exact kk q g1 H1 locs L g2 p3 hL c1 c2
theorem zr_newJ (hX : zOK g X cc y ret tb nl d mc ms) {N : Nat} {i : Int32} (hw : Cond.arrayClass .long ∈ zTW) (hi : ¬ i < 0) (hN : i.toNatClampNeg = N) (hb : N * 8 ≤ 536870912) (hk1 : k + 1 ≤ mc) (hn1 : n + N ≤ ms) (hd : decode cc pc = .ok (.newarray .long, 2))
    (kk : ∀ q : Nat, G q = none → zw g X Post (pc + 2) zl (.ref q :: st) (zput G q (zJ N (fun _ => 0))) (k + 1) (n + N)) : zw g X Post pc zl (.int i :: st) G k n := by
  obtain ⟨p, e, R, s, m, args, below, meth, c, A, nL⟩ := X
  intro H locs L hR hS hL hk hn
  obtain ⟨ws, h1, h2, h3, h4⟩ := hR
  have hrm := hX.rm
  have c1 : k + 1 ≤ R.cells := by rw [hrm]; exact hk1
  have c2 : n + N ≤ R.slots := by rw [hrm]; exact hn1
  refine va_newa (atype := .long) (D := zD g) (cl := zcl) (tys := zty (ztc g)) (ty := .long) (a0 := (N, .inr (.inl (fun _ => 0)))) hX.ex hX.cd (hX.wd hw (Or.inr ⟨_, rfl⟩)) rfl hX.K h1 h2 hS hX.hA (fun cA => rfl) hi hN hb c1 c2 hd (fun q cA H1 pK p1 p2 p3 => ?_)
  have e1 : cA = ztc g 2 := by
    have r1 := (pK.2 6 (cA, .long) rfl).2
    have r2 := (pK.2 2 (ztc g 2, .long) rfl).2
    exact Option.some.inj (r1.symm.trans r2)
  subst e1
  obtain ⟨g1, g2⟩ := zRep_push (c' := zJ N (fun _ => 0)) h3 h4 p1 p2
  exact kk q g1 H1 locs L g2 p3 hL c1 c2
/-! returns -/
theorem zr_iret (hX : zOK g X cc y (some .int) tb nl d mc ms) {v : Int32} (hd : decode cc pc = .ok (.ireturn, 1)) (hp : Post (.inl (some (.int v))) G) : zw g X Post pc zl [.int v] G k n := by
  obtain ⟨p, e, R, s, m, args, below, meth, c, A, nL⟩ := X
  intro H locs L hR hS hL hk hn
  refine W.widen hk hn ?_
  intro T hT X
  obtain ⟨t, a1, o, b1, b2, b3, L9, b4, b5⟩ := W.iret (Qc := fun _ st o t => o = .returned (some (.int v)) ∧ t.heap = H) (free := A) hX.ex hX.cd hX.rt (fun t ht _ => ⟨rfl, ht⟩) hS.2.2 hd hX.lk T hT X
  exact ⟨t, a1, o, b1, b2, .inl (some (.int v)), G, L9, hp, by rw [b3.2]; exact hR, hS.F b3.2, b4.2.1, b4.2.2, b5, b3.1⟩
theorem zr_zret (hX : zOK g X cc y (some .boolean) tb nl d mc ms) {v : Int32} (hv : narrow .boolean (.int v) = .int v) (hd : decode cc pc = .ok (.ireturn, 1)) (hp : Post (.inl (some (.int v))) G) : zw g X Post pc zl [.int v] G k n := by
  obtain ⟨p, e, R, s, m, args, below, meth, c, A, nL⟩ := X
  intro H locs L hR hS hL hk hn
  refine W.widen hk hn ?_
  intro T hT X
  obtain ⟨t, a1, o, b1, b2, b3, L9, b4, b5⟩ := W.zret (Qc := fun _ st o t => o = .returned (some (.int v)) ∧ t.heap = H) (free := A) hX.ex hX.cd hX.rt hv (fun t ht _ => ⟨rfl, ht⟩) hS.2.2 hd hX.lk T hT X
  exact ⟨t, a1, o, b1, b2, .inl (some (.int v)), G, L9, hp, by rw [b3.2]; exact hR, hS.F b3.2, b4.2.1, b4.2.2, b5, b3.1⟩
theorem zr_lret (hX : zOK g X cc y (some .long) tb nl d mc ms) {v : Int64} (hd : decode cc pc = .ok (.lreturn, 1)) (hp : Post (.inl (some (.long v))) G) : zw g X Post pc zl [.long v] G k n := by
  obtain ⟨p, e, R, s, m, args, below, meth, c, A, nL⟩ := X
  intro H locs L hR hS hL hk hn
  refine W.widen hk hn ?_
  intro T hT X
  obtain ⟨t, a1, o, b1, b2, b3, L9, b4, b5⟩ := W.lret (Qc := fun _ st o t => o = .returned (some (.long v)) ∧ t.heap = H) (free := A) hX.ex hX.cd hX.rt (fun t ht _ => ⟨rfl, ht⟩) hS.2.2 hd hX.lk T hT X
  exact ⟨t, a1, o, b1, b2, .inl (some (.long v)), G, L9, hp, by rw [b3.2]; exact hR, hS.F b3.2, b4.2.1, b4.2.2, b5, b3.1⟩
theorem zr_vret (hX : zOK g X cc y none tb nl d mc ms) (hd : decode cc pc = .ok (.return_, 1)) (hp : Post (.inl none) G) : zw g X Post pc zl [] G k n := by
  obtain ⟨p, e, R, s, m, args, below, meth, c, A, nL⟩ := X
  intro H locs L hR hS hL hk hn
  refine W.widen hk hn ?_
  intro T hT X
  obtain ⟨t, a1, o, b1, b2, b3, L9, b4, b5⟩ := W.vret (Qc := fun _ st o t => o = .returned none ∧ t.heap = H) (free := A) hX.ex hX.cd hX.rt (fun t ht _ => ⟨rfl, ht⟩) hS.2.2 hd hX.lk T hT X
  exact ⟨t, a1, o, b1, b2, .inl none, G, L9, hp, by rw [b3.2]; exact hR, hS.F b3.2, b4.2.1, b4.2.2, b5, b3.1⟩
theorem zr_aret (hX : zOK g X cc y ret tb nl d mc ms) {rt : FieldType} (hrt : ret = some rt) (hro : (∃ n, rt = .object n) ∨ ∃ t, rt = .array t) {v : Value} (hv : v = .null ∨ ∃ a, v = .ref a) (hd : decode cc pc = .ok (.areturn, 1)) (hp : Post (.inl (some v)) G) : zw g X Post pc zl [v] G k n := by
  obtain ⟨p, e, R, s, m, args, below, meth, c, A, nL⟩ := X
  intro H locs L hR hS hL hk hn
  refine W.widen hk hn ?_
  intro T hT X
  obtain ⟨t, a1, o, b1, b2, b3, L9, b4, b5⟩ := W.aret (Qc := fun _ st o t => o = .returned (some v) ∧ t.heap = H) (free := A) hX.ex hX.cd (hX.rt.trans hrt) hro hv (fun t ht _ => ⟨rfl, ht⟩) hS.2.2 hd hX.lk T hT X
  exact ⟨t, a1, o, b1, b2, .inl (some v), G, L9, hp, by rw [b3.2]; exact hR, hS.F b3.2, b4.2.1, b4.2.2, b5, b3.1⟩
end ZH
end
section
/-! contracts and calls -/
def zcw (y : MethodName) (cc : ByteArray) (nl : Nat) (ret : Option FieldType) (tb : List (Nat × Nat × Nat × Nat)) : Cond := match tb with
  | [] => .code y cc nl ret
  | _ => .codeWith y cc nl ret tb
/-- method y, called with av on a heap that holds G: it returns or throws, as Post says; at most mc cells of ms slots are new; d deep -/
def zMet (g : zGt) (y : MethodName) (cc : ByteArray) (nl : Nat) (ret : Option FieldType) (tb : List (Nat × Nat × Nat × Nat)) (d mc ms : Nat) (av : List Value) (G : zG) (Post : zRes → zG → Prop) : Prop :=
  zGl g → ∀ sz : Nat, MetFree (zl0 g) y (headSpec [zcw y cc nl ret tb] (zrm d mc ms)) (fun v U => v = av.toArray ∧ U.heap.size = sz ∧ zRep (zD g) (ztc g) (zA g G sz) G U.heap ∧ zAft g U U.heap) (fun _ _ _ _ _ => True) (zQ g (zA g G sz) mc ms Post)
theorem zloc_entry (av : List Value) {n : Nat} (h : (lg_sl av).length ≤ n) : zloc ((lg_sl av ++ List.replicate (n - (lg_sl av).length) Slot.unset).toArray) n (zent av n) := by
  refine ⟨_, lv_entry av h, fun i v hi => ?_⟩
  have h1 := zarg_in av 0 i v (zlk_app _ _ _ _ hi)
  rw [Nat.zero_add] at h1
  exact h1
theorem zcw_spec {y : MethodName} {cc : ByteArray} {nl : Nat} {ret : Option FieldType} {tb : List (Nat × Nat × Nat × Nat)} {args : Array Value} {s : State} {m : MethodId} (hn : s.methodNamed? y = some m) (h : (zcw y cc nl ret tb).before args s = true) :
    ∃ meth c, s.vm.method? m = some meth ∧ meth.code = some c ∧ c.code = cc ∧ c.maxLocals = nl ∧ meth.sig.returnType = ret ∧ meth.locks = false ∧ c.exceptionTable.toList = tableOf tb ∧ parseMethodDescriptor y.desc = some meth.sig := by
  cases tb with
  | nil =>
    obtain ⟨meth, c, h1, h2, h3, h4, h5, h6, h7, h8⟩ := Cond.code_spec hn h
    refine ⟨meth, c, h1, h2, h3, h4, h5, h6, ?_, h8⟩
    rw [Array.isEmpty_iff.mp h7]
    rfl
  | cons a r =>
    obtain ⟨m9, meth, c, hn9, h1, h2, h3, h4, h6, h5, h7, h8⟩ := Cond.codeWith_spec h
    cases Option.some.inj (hn9.symm.trans hn)
    exact ⟨meth, c, h1, h2, h3, h4, h5, h7, by rw [← h6, table_eq], h8⟩
theorem zMet.of {g : zGt} {y : MethodName} {cc : ByteArray} {nl : Nat} {ret : Option FieldType} {tb : List (Nat × Nat × Nat × Nat)} {d mc ms : Nat} {av : List Value} {G : zG} {Post : zRes → zG → Prop} {zl : List (Option Value)} (hy : plainName y.cls = true) (hz : (lg_sl av).length ≤ nl) (hzl : zent av nl = zl)
    (body : ∀ X, zOK g X cc y ret tb nl d mc ms → zw g X Post 0 zl [] G 0 0) : zMet g y cc nl ret tb d mc ms av G Post := by
  subst hzl
  intro hg sz
  refine MetFree.of_bodyS (code := cc) (maxLocals := nl) (ret := ret) hy ?_ ?_
  · intro args s m h hn
    obtain ⟨meth, c, h1, h2, h3, h4, h5, h6, -, -⟩ := zcw_spec hn (atoms_spec (ws := [zcw y cc nl ret tb]) h _ List.mem_cons_self)
    exact ⟨meth, c, h1, h2, h3, h4, h5, h6⟩
  · intro p e s m args below meth c s₁ B hml hP _
    obtain ⟨rfl, hsz, hR, hA⟩ := hP
    subst hsz
    have hh0 : s₁.heap = s.heap := by rw [B.state]; rfl
    obtain ⟨meth9, c9, h1, h2, -, -, -, -, h7, -⟩ := zcw_spec B.named (atoms_spec (ws := [zcw y cc nl ret tb]) B.pre _ List.mem_cons_self)
    cases Option.some.inj (h1.symm.trans B.method)
    cases Option.some.inj (h2.symm.trans (Stand.of_body B).code)
    have hX : zOK g (p, e, zrm d mc ms, s, m, av.toArray, below, meth, c, zA g G s.heap.size, nl) cc y ret tb nl d mc ms :=
      ⟨hg, B.exec, B.bytes, hml, rfl, findClass_of_methodNamed B.named, (name_of_methodNamed B.named B.method).1, hA, fun q h => ⟨Or.inr h, Nat.le_trans hA.2.1 h⟩, fun q h => h.2, B.notSynchronized, B.returns, h7, rfl⟩
    have K := body _ hX s.heap [] _ hR va_S.rf (zloc_entry av hz) (Nat.zero_le _) (Nat.zero_le _)
    rw [lg_entry_eq]
    obtain ⟨t, a1, o, b1, b2, b3⟩ := K s₁ hh0 (Stand.of_body B)
    exact ⟨t, o, a1, b1, b2, b3⟩
theorem zAft.to {g : zGt} {U V : State} {H H1 : Heap} {A : Nat → Prop} (h : zAft g U H) (hW : U.WarmedH V.vm) (hA : ∀ q, A q → (zs0 g).heap.size ≤ q) (h1 : H.size ≤ H1.size) (h2 : ∀ q : Nat, q < H.size → ¬ A q → H1[q]? = H[q]?) : zAft g V H1 :=
  ⟨State.WarmedH.trans h.1 hW, Nat.le_trans h.2.1 h1, fun q hq => by rw [h2 q (Nat.lt_of_lt_of_le hq h.2.1) (fun z => by have := hA q z; omega)]; exact h.2.2 q hq⟩
/-- what a call of y does to the caller's walk -/
theorem zback {g : zGt} {p : Program} {e : Env} {R : Room} {s : State} {m : MethodId} {sargs : Array Value} {below : List Frame} {meth : Method} {c : Code} {U : State} {locs : List Loc} {k n : Nat}
    {y : MethodName} {cc : ByteArray} {nl : Nat} {ret : Option FieldType} {tb : List (Nat × Nat × Nat × Nat)} {d mc ms W9 : Nat} {av : List Value} {G : zG} {Post : zRes → zG → Prop}
    (hM : zMet g y cc nl ret tb d mc ms av G Post) (hg : zGl g) (X : Stand p (zl0 g) e R s m sargs below meth c U locs k n) {gf : JFrame} (hgm : gf.method = m) (hsize : gf.locals.size = c.maxLocals) {ig : Instr} {len : Nat} (hdg : decode c.code gf.pc = .ok (ig, len))
    (hW : 2 * gf.monitorRoom + (gf.stack.map fun v => v.category).sum ≤ W9) {mk : MethodId} (hn : U.methodNamed? y = some mk) (hcode : (zcw y cc nl ret tb).before av.toArray U = true) (hinit : (Cond.initialized y.cls).before av.toArray U = true)
    (hfr : d + 1 ≤ R.frames) (hlo : W9 + (nl + 11) + 64 * d ≤ R.locals) (hc1 : k + mc ≤ R.cells) (hs1 : n + ms ≤ R.slots) (hR : zRep (zD g) (ztc g) (zA g G U.heap.size) G U.heap) (hA : zAft g U U.heap) :
    ∃ (r : zRes) (G1 : zG) (B : State) (L : List Loc), Post r G1 ∧ zRep (zD g) (ztc g) (zA g G U.heap.size) G1 B.heap ∧ U.heap.size ≤ B.heap.size ∧ (∀ q : Nat, q < U.heap.size → ¬ zA g G U.heap.size q → B.heap[q]? = U.heap[q]?) ∧ U.WarmedH B.vm ∧ (∀ z ∈ L, zA g G U.heap.size z.base) ∧
      Stand p (zl0 g) e R s m sargs below meth c B (locs ++ L) (k + mc) (n + ms) ∧
      ((∃ v, r = .inl v ∧ Steps p.tables e below (doInvoke e (U.setTop gf) [] mk av.toArray).1 (B.setTop { gf with pc := gf.pc + len, stack := v.toList ++ gf.stack })) ∨
       (∃ E q ce, r = .inr E ∧ B.heap[q]? = some ce ∧ ce.vm = .none ∧ U.vm.findClass E = some ce.cls ∧ Steps p.tables e below (doInvoke e (U.setTop gf) [] mk av.toArray).1 ((B.setTop gf).pushFrame (.throwing q)))) := by
  have hM1 := hM hg U.heap.size
  obtain ⟨methY, cY, hmY, hcY, -, hlY, -⟩ := zcw_spec hn hcode
  obtain ⟨kY, hkY, -⟩ := className_of_methodNamed hn
  have hinitY : kY.init = .initialized := Cond.initialized_spec (findClass_of_methodNamed hn) hkY hinit
  have h : At U gf.method c below := by rw [hgm]; exact X.here
  have h1 : (headSpec [zcw y cc nl ret tb] (zrm d mc ms)).pre.before av.toArray U = true := atoms_intro fun w hw => by
    rw [List.mem_singleton.mp hw]; exact hcode
  have happ : (headSpec [zcw y cc nl ret tb] (zrm d mc ms)).appliesLoose y e.platform (U.calling gf mk av.toArray) = true :=
    Spec.appliesLoose_calling (g := gf) h hdg hn hkY hinitY
      (X.room_calling (g := gf) (R' := zrm d mc ms) hsize hmY hcY hfr (by rw [hlY]; show _ + (64 * d) ≤ _; omega) hc1 hs1) h1
  obtain ⟨mid, hmid⟩ := h.above
  have hfr0 : (U.setTop gf).frames = (.java gf :: mid) ++ below := by rw [State.frames_setTop' gf h.top, hmid]; rfl
  obtain ⟨o, s₂, hsteps, -, hend, hq⟩ := Steps.callFree hM1 p X.admits X.cas X.clock (acts := []) hfr0 happ ⟨rfl, rfl, hR, hA⟩ trivial
  have hq' : zQ g (zA g G U.heap.size) mc ms Post av.toArray (U.calling gf mk av.toArray) o s₂ := hq
  obtain ⟨r, G1, L, q1, q2, ⟨q3, q4⟩, q5, q6, q7, q8⟩ := hq'
  have q3' : U.heap.size ≤ s₂.heap.size := q3
  have q4' : ∀ q : Nat, q < U.heap.size → ¬ zA g G U.heap.size q → s₂.heap[q]? = U.heap[q]? := q4
  have hW' : U.WarmedH s₂.vm := q5
  rw [State.frames_setTop' gf h.top] at hend
  obtain ⟨g₀, hg0⟩ := Option.isSome_iff_exists.mp h.top
  obtain ⟨r0, hr⟩ := State.topJava?_eq_some.mp hg0
  have hr' : (({ U with heap := s₂.heap, slotsUsed := s₂.slotsUsed } : State).setVm s₂.vm).frames = .java g₀ :: r0 := hr
  obtain ⟨e2, p2, p3, p4, p5, p6⟩ := id q6
  have e3 : s₂ = ({ (U.calling gf mk av.toArray).setFrames s₂.frames with heap := s₂.heap, slotsUsed := s₂.slotsUsed } : State).setVm s₂.vm := by
    have : s₂ = ({ s₂ with vm := (U.calling gf mk av.toArray).vm } : State).setVm s₂.vm := rfl
    rw [e2] at this
    exact this
  have hsame : U.sameButNew ({ U with heap := s₂.heap, slotsUsed := s₂.slotsUsed } : State) L mc ms := by
    refine ⟨?_, p2, p3, p4, p5, p6⟩
    obtain ⟨t, ht, -⟩ := State.frames_cons hr
    show ({ U with heap := s₂.heap, slotsUsed := s₂.slotsUsed } : State) = { U.setFrames U.frames with heap := s₂.heap, slotsUsed := s₂.slotsUsed }
    rw [State.setFrames_self ht]
  have XB : Stand p (zl0 g) e R s m sargs below meth c (({ U with heap := s₂.heap, slotsUsed := s₂.slotsUsed } : State).setVm s₂.vm) (locs ++ L) (k + mc) (n + ms) := by
    subst hgm
    exact ⟨X.admits, X.cas, X.clock, X.frames, X.room, X.hears, X.method, X.code, (X.here.setHeapUsed s₂.heap s₂.slotsUsed).setVm hW'.alike, X.tail, State.WarmedH.trans X.warmed hW', X.limits, X.bytes, X.same.trans (hsame.setVm s.vm)⟩
  refine ⟨r, G1, (({ U with heap := s₂.heap, slotsUsed := s₂.slotsUsed } : State).setVm s₂.vm), L, q1, q2, q3', q4', hW', q7, XB, ?_⟩
  cases r with
  | inl v =>
    have q8' : o = .returned v := q8
    subst q8'
    obtain ⟨c₂, i₂, len₂, hc₂, hd₂, hf₂⟩ := hend
    have hcc : c₂ = c := by
      have h1 : s₂.code? gf.method = U.code? gf.method := by
        rw [State.code?_eq, State.code?_eq, hW'.alike.method?]
      exact Option.some.inj (hc₂.symm.trans (h1.trans h.code))
    subst hcc
    have hlen : len₂ = len := by rw [hdg] at hd₂; cases hd₂; rfl
    subst hlen
    refine Or.inl ⟨v, rfl, ?_⟩
    have hs₂ : s₂ = (({ U with heap := s₂.heap, slotsUsed := s₂.slotsUsed } : State).setVm s₂.vm).setTop { gf with pc := gf.pc + len₂, stack := v.toList ++ gf.stack } := by
      refine e3.trans ?_
      rw [hf₂, State.calling_eq h.top, State.setFrames_setFrames, State.setTop_of_frames _ hr', hr]
      rfl
    rw [← hs₂]
    exact hsteps
  | inr E =>
    obtain ⟨q, ce, q9, q10, q11, q12⟩ := q8
    subst q9
    have hf₂ : s₂.frames = .throwing q :: .java gf :: U.frames.tail := hend
    refine Or.inr ⟨E, q, ce, rfl, q10, q11, q12, ?_⟩
    have hs₂ : s₂ = ((({ U with heap := s₂.heap, slotsUsed := s₂.slotsUsed } : State).setVm s₂.vm).setTop gf).pushFrame (.throwing q) := by
      refine e3.trans ?_
      rw [hf₂, State.calling_eq h.top, State.setFrames_setFrames, State.pushFrame, State.frames_setTop _ hr', State.setTop_of_frames _ hr', State.setFrames_setFrames, hr]
      rfl
    rw [← hs₂]
    exact hsteps
section ZD
variable {g : zGt} {X : zX} {cc : ByteArray} {y : MethodName} {ret : Option FieldType} {tb : List (Nat × Nat × Nat × Nat)} {nl d mc ms : Nat} {Post : zRes → zG → Prop} {pc : Nat} {zl : List (Option Value)} {G : zG} {k n : Nat}
variable {y2 : MethodName} {cc2 : ByteArray} {nl2 : Nat} {ret2 : Option FieldType} {tb2 : List (Nat × Nat × Nat × Nat)} {mc2 ms2 idx : Nat} {av rest : List Value} {Post1 : zRes → zG → Prop}
/-- the pool's entry idx of class own names y2 -/
def zlk2 (own : String) (idx : Nat) (y2 : MethodName) : Prop := Cond.methodLink own idx y2 ∈ zTW ∨ ∃ host, Cond.methodLinkNest own idx y2 host ∈ zTW
theorem zlk2.a {own : String} {idx : Nat} {y2 : MethodName} (h : Cond.methodLink own idx y2 ∈ zTW) : zlk2 own idx y2 := Or.inl h
theorem zlk2.b {own : String} {idx : Nat} {y2 : MethodName} {host : String} (h : Cond.methodLinkNest own idx y2 host ∈ zTW) : zlk2 own idx y2 := Or.inr ⟨host, h⟩
theorem zcw_good {y : MethodName} {cc : ByteArray} {nl : Nat} {ret : Option FieldType} {tb : List (Nat × Nat × Nat × Nat)} : ((zcw y cc nl ret tb).onTables && (zcw y cc nl ret tb).keeps) = true := by
  cases tb <;> rfl
/-- a method that is named, with its code: static or not, it can be called -/
def zFit (y2 : MethodName) (cc2 : ByteArray) (nl2 : Nat) (ret2 : Option FieldType) (tb2 : List (Nat × Nat × Nat × Nat)) (n : Nat) : Prop :=
  Cond.initialized y2.cls ∈ zTW ∧ zcw y2 cc2 nl2 ret2 tb2 ∈ zTW ∧ (y2.cls ≠ "java/lang/invoke/MethodHandle" ∧ y2.cls ≠ "java/lang/invoke/VarHandle") ∧ (parseMethodDescriptor y2.desc).map (fun d => d.parameters.length) = some n ∧ nl2 ≤ 40
theorem zcall_go {p : Program} {e : Env} {R : Room} {s : State} {m : MethodId} {args : Array Value} {below : List Frame} {meth : Method} {c : Code} {A : Nat → Prop} {nL : Nat} (hX : zOK g (p, e, R, s, m, args, below, meth, c, A, nL) cc y ret tb nl d mc ms)
    (hM : zMet g y2 cc2 nl2 ret2 tb2 (d - 1) mc2 ms2 av G Post1) {N : Nat} (hF : zFit y2 cc2 nl2 ret2 tb2 N) (hwt : (rest.map fun v => v.category).sum ≤ 12) (hd1 : 1 ≤ d) (hk1 : k + mc2 ≤ mc) (hn1 : n + ms2 ≤ ms) {i0 : Instr} (hdg : decode cc pc = .ok (i0, 3))
    (kk : ∀ (v : Option Value) (G1 : zG), Post1 (.inl v) G1 → zw g (p, e, R, s, m, args, below, meth, c, A, nL) Post (pc + 3) zl (v.toList ++ rest) G1 (k + mc2) (n + ms2))
    (kx : ∀ (E : String) (G1 : zG), Post1 (.inr E) G1 → zt g (p, e, R, s, m, args, below, meth, c, A, nL) Post pc E zl G1 (k + mc2) (n + ms2))
    {H : Heap} {locs : List Loc} {L : Array Slot} (hR : zRep (zD g) (ztc g) A G H) (hS : va_S A s.heap H locs) (hL : zloc L nL zl) {T : State} (hT : T.heap = H) {vm₁ : Vm} (X₁ : Stand p (zl0 g) e R s m args below meth c (T.setVm vm₁) locs k n) {mk : MethodId} (hn : s.methodNamed? y2 = some mk) {gs : List Value}
    (hstep : ∀ target, (∀ acts, Steps p.tables e below (doInvoke e ((T.setVm vm₁).setTop (F0 m pc L rest)) acts mk av.toArray).1 target) → Steps p.tables e below (T.setTop (F0 m pc L gs)) target) :
    ∃ t, Steps p.tables e below (T.setTop (F0 m pc L gs)) t ∧ zEnd g below args s A R.cells R.slots Post t := by
  subst hT
  have hrm := hX.rm
  have c1 : k + mc2 ≤ R.cells := by rw [hrm]; exact hk1
  have c2 : n + ms2 ≤ R.slots := by rw [hrm]; exact hn1
  have c3 : d - 1 + 1 ≤ R.frames := by rw [hrm]; show d - 1 + 1 ≤ d; omega
  have c4 : 12 + (nl2 + 11) + 64 * (d - 1) ≤ R.locals := by
    rw [hrm]; show _ ≤ 64 * d
    have := hF.2.2.2.2
    omega
  have hWU : s.WarmedH (T.setVm vm₁).vm := X₁.warmed
  have hAf : zAft g (T.setVm vm₁) (T.setVm vm₁).heap := zAft.to hX.af hWU hX.A0 hS.1 hS.2.1
  have hsub : ∀ q, zA g G (T.setVm vm₁).heap.size q → A q := fun q hq => by
    rcases hq.1 with h | h
    · exact hR.inA h
    · exact hX.hA q (Nat.le_trans hS.1 h)
  have hRU : zRep (zD g) (ztc g) (zA g G (T.setVm vm₁).heap.size) G (T.setVm vm₁).heap := by
    obtain ⟨ws, h1, h2, h3, h4⟩ := hR
    refine ⟨ws, h1, h2.weaken (fun j q hj hq => ?_), h3, h4⟩
    obtain ⟨c9, h9, -⟩ := h4 j q hj
    exact ⟨Or.inl (by rw [h9]; exact fun z => by cases z), hX.A0 _ hq⟩
  obtain ⟨r, G1, B, L1, q1, q2, q3, q4, q5, q6, XB, q7⟩ := zback (W9 := 12) hM hX.gl X₁ (gf := F0 m pc L rest) rfl (by rw [hX.ml]; exact hL.size) (by rw [hX.cd]; exact hdg) (by show 2 * 0 + (rest.map fun v => v.category).sum ≤ 12; omega) (X₁.named hn)
    (word_at hAf.1 (Or.inl zcw_good) (hX.gl.1 _ hF.2.1)) (word_at hAf.1 (Or.inl rfl) (hX.gl.1 _ hF.1)) c3 c4 c1 c2 hRU hAf
  have hS1 : va_S A s.heap B.heap (locs ++ L1) := ⟨Nat.le_trans hS.1 q3, fun q h1 h2 => by rw [q4 q (Nat.lt_of_lt_of_le h1 hS.1) (fun z => h2 (hsub q z))]; exact hS.2.1 q h1 h2, fun q hq => by
      rcases List.mem_append.mp hq with h | h
      · exact hS.2.2 q h
      · exact hsub _ (q6 q h)⟩
  rcases q7 with ⟨v, rfl, hst⟩ | ⟨E, q, ce, rfl, h1, h2, h3, hst⟩
  · obtain ⟨t, a1, b1⟩ := kk v G1 q1 B.heap (locs ++ L1) L (q2.weaken hsub) hS1 hL c1 c2 B rfl XB
    exact ⟨t, hstep t fun acts => by rw [doInvoke_state]; exact hst.trans a1, b1⟩
  · have h3' : s.vm.findClass E = some ce.cls := by
      rw [← hWU.alike.findClass]
      exact h3
    obtain ⟨t, a1, b1⟩ := kx E G1 q1 B.heap (locs ++ L1) L rest q ce (q2.weaken hsub) hS1 hL c1 c2 h1 h2 h3' B rfl XB
    exact ⟨t, hstep t fun acts => by rw [doInvoke_state]; exact hst.trans a1, b1⟩
theorem zOK.wn {p : Program} {e : Env} {R : Room} {s : State} {m : MethodId} {args : Array Value} {below : List Frame} {meth : Method} {c : Code} {A : Nat → Prop} {nL : Nat} (hX : zOK g (p, e, R, s, m, args, below, meth, c, A, nL) cc y ret tb nl d mc ms) {own host : String} (hw : Cond.methodLinkNest own idx y2 host ∈ zTW) : (Cond.methodLinkNest own idx y2 host).before args s = true :=
  va_Nw.use rfl (va_Nw.warmM hX.af.1 (va_Nw.of rfl (hX.gl.1 _ hw)))
theorem zr_callS (hX : zOK g X cc y ret tb nl d mc ms) {st : List Value} (hM : zMet g y2 cc2 nl2 ret2 tb2 (d - 1) mc2 ms2 av G Post1) (hw1 : zlk2 y.cls idx y2) (hw2 : Cond.static y2 ∈ zTW) (hF : zFit y2 cc2 nl2 ret2 tb2 av.length) (hst : st = av.reverse ++ rest) (hwt : (rest.map fun v => v.category).sum ≤ 12) (hd1 : 1 ≤ d) (hk1 : k + mc2 ≤ mc) (hn1 : n + ms2 ≤ ms) (hd : decode cc pc = .ok (.invokestatic idx, 3))
    (kk : ∀ (v : Option Value) (G1 : zG), Post1 (.inl v) G1 → zw g X Post (pc + 3) zl (v.toList ++ rest) G1 (k + mc2) (n + ms2))
    (kx : ∀ (E : String) (G1 : zG), Post1 (.inr E) G1 → zt g X Post pc E zl G1 (k + mc2) (n + ms2)) : zw g X Post pc zl st G k n := by
  obtain ⟨p, e, R, s, m, args, below, meth, c, A, nL⟩ := X
  subst hst
  intro H locs L hR hS hL hk hn T hT X
  have hcode : (zcw y2 cc2 nl2 ret2 tb2).before args s = true := hX.wk hF.2.1 zcw_good
  obtain ⟨mk, hnamed⟩ : ∃ mk, s.methodNamed? y2 = some mk := by
    cases tb2 with
    | nil => exact Cond.code_named hcode
    | cons a r => obtain ⟨m9, -, -, h9, -⟩ := Cond.codeWith_spec hcode; exact ⟨m9, h9⟩
  obtain ⟨methM, cM, hmethM, -, -, -, -, -, -, hsigM⟩ := zcw_spec hnamed hcode
  have hstatic : methM.isStatic = true := Cond.static_spec hnamed hmethM (hX.wk hw2 rfl)
  obtain ⟨kP, hkP, -⟩ := className_of_methodNamed hnamed
  have hinitP : kP.init = .initialized := Cond.initialized_spec (findClass_of_methodNamed hnamed) hkP (hX.wk hF.1 rfl)
  have hlen : av.length = methM.sig.parameters.length := by
    have h9 := hF.2.2.2.1
    rw [hsigM] at h9
    exact (Option.some.inj h9).symm
  rcases hw1 with hw1 | ⟨host, hw1⟩
  · obtain ⟨vm₁, X₁, hstep₁⟩ := X.invokestatic hX.ex hX.ow (hX.wk hw1 rfl) hnamed hmethM hstatic hkP hinitP hF.2.2.1 (g := F0 m pc L (av.reverse ++ rest)) rfl (argsL := av) (rest := rest) hlen rfl (by rw [hX.cd]; exact hd)
    exact zcall_go hX hM hF hwt hd1 hk1 hn1 hd kk kx hR hS hL hT X₁ hnamed hstep₁
  · obtain ⟨vm₁, X₁, hstep₁⟩ := X.invokestaticNest hX.ex hX.ow (hX.wn hw1) hnamed hmethM hstatic hkP hinitP hF.2.2.1 (g := F0 m pc L (av.reverse ++ rest)) rfl (argsL := av) (rest := rest) hlen rfl (by rw [hX.cd]; exact hd)
    exact zcall_go hX hM hF hwt hd1 hk1 hn1 hd kk kx hR hS hL hT X₁ hnamed hstep₁
theorem zr_callV (hX : zOK g X cc y ret tb nl d mc ms) {st : List Value} {b ci M : Nat} {fs : List Value} {C : String} {T9 : u_T} (hM : zMet g y2 cc2 nl2 ret2 tb2 (d - 1) mc2 ms2 (.ref b :: av) G Post1) (hw1 : zlk2 y.cls idx y2) (hw2 : Cond.instanceMethod y2 ∈ zTW) (hw3 : Cond.selects C y2 y2 ∈ zTW) (hF : zFit y2 cc2 nl2 ret2 tb2 av.length) (hc : zcl[ci]? = some (C, T9, M)) (hG : G b = some (zO ci fs)) (hst : st = av.reverse ++ .ref b :: rest) (hwt : (rest.map fun v => v.category).sum ≤ 12) (hd1 : 1 ≤ d) (hk1 : k + mc2 ≤ mc) (hn1 : n + ms2 ≤ ms) (hd : decode cc pc = .ok (.invokevirtual idx, 3))
    (kk : ∀ (v : Option Value) (G1 : zG), Post1 (.inl v) G1 → zw g X Post (pc + 3) zl (v.toList ++ rest) G1 (k + mc2) (n + ms2))
    (kx : ∀ (E : String) (G1 : zG), Post1 (.inr E) G1 → zt g X Post pc E zl G1 (k + mc2) (n + ms2)) : zw g X Post pc zl st G k n := by
  obtain ⟨p, e, R, s, m, args, below, meth, c, A, nL⟩ := X
  subst hst
  intro H locs L hR hS hL hk hn T hT X
  have hcode : (zcw y2 cc2 nl2 ret2 tb2).before args s = true := hX.wk hF.2.1 zcw_good
  obtain ⟨mk, methM, hnamed, hmethM, hstM, habM⟩ := Cond.instanceMethod_spec (hX.wk hw2 rfl)
  obtain ⟨methM', cM, hmethM', -, -, -, -, -, -, hsigM⟩ := zcw_spec hnamed hcode
  cases hmethM.symm.trans hmethM'
  obtain ⟨cellB, hcB, hoB, hclB⟩ : ∃ cell : Cell, H[b]? = some cell ∧ cell.vm.isStatics = false ∧ s.vm.findClass C = some cell.cls := by
    obtain ⟨ws, h1, h2, h3, h4⟩ := hR
    obtain ⟨q, hq⟩ := h3 b _ hG
    exact va_recv hX.K h1 hc hq
  obtain ⟨c2, r2, m2, q1, q2, q3, q4, kP, hkP, hkPi⟩ := Cond.selects_spec (hX.wk hw3 rfl)
  cases hclB.symm.trans q1
  cases (State.methodFound?_of_named hnamed hF.2.2.1).symm.trans q2
  cases hnamed.symm.trans q3
  have hselP : selectMethod e.platform s.vm cellB.cls mk = .method mk := by rw [Launch.admits_selectMethod X.admits]; exact q4
  have hlen : av.length = methM.sig.parameters.length := by
    have h9 := hF.2.2.2.1
    rw [hsigM] at h9
    exact (Option.some.inj h9).symm
  rcases hw1 with hw1 | ⟨host, hw1⟩
  · obtain ⟨vm₁, X₁, hstep₁⟩ := X.invokevirtual hX.ex hX.ow (hX.wk hw1 rfl) hnamed hmethM hstM hkP hkPi hF.2.2.1 (a := b) (cell := cellB) (by rw [hT]; exact hcB) (fun z h => by rw [h] at hoB; cases hoB) hselP hmethM habM hkP hkPi (g := F0 m pc L (av.reverse ++ .ref b :: rest)) rfl (argsL := av) (rest := rest) hlen rfl (by rw [hX.cd]; exact hd)
    exact zcall_go hX hM hF hwt hd1 hk1 hn1 hd kk kx hR hS hL hT X₁ hnamed hstep₁
  · obtain ⟨vm₁, X₁, hstep₁⟩ := X.invokevirtualNest hX.ex hX.ow (hX.wn hw1) hnamed hmethM hstM hkP hkPi hF.2.2.1 (a := b) (cell := cellB) (by rw [hT]; exact hcB) (fun z h => by rw [h] at hoB; cases hoB) hselP hmethM habM hkP hkPi (g := F0 m pc L (av.reverse ++ .ref b :: rest)) rfl (argsL := av) (rest := rest) hlen rfl (by rw [hX.cd]; exact hd)
    exact zcall_go hX hM hF hwt hd1 hk1 hn1 hd kk kx hR hS hL hT X₁ hnamed hstep₁
theorem zr_callI (hX : zOK g X cc y ret tb nl d mc ms) {st : List Value} {b : Nat} (hM : zMet g y2 cc2 nl2 none [] (d - 1) mc2 ms2 (.ref b :: av) G Post1) (hw1 : zlk2 y.cls idx y2) (hy1 : y2.name = "<init>") (hw2 : Cond.instanceMethod y2 ∈ zTW) (hF : zFit y2 cc2 nl2 none [] av.length) (hst : st = av.reverse ++ .ref b :: rest) (hwt : (rest.map fun v => v.category).sum ≤ 12) (hd1 : 1 ≤ d) (hk1 : k + mc2 ≤ mc) (hn1 : n + ms2 ≤ ms) (hd : decode cc pc = .ok (.invokespecial idx, 3))
    (kk : ∀ (v : Option Value) (G1 : zG), Post1 (.inl v) G1 → zw g X Post (pc + 3) zl (v.toList ++ rest) G1 (k + mc2) (n + ms2))
    (kx : ∀ (E : String) (G1 : zG), Post1 (.inr E) G1 → zt g X Post pc E zl G1 (k + mc2) (n + ms2)) : zw g X Post pc zl st G k n := by
  obtain ⟨p, e, R, s, m, args, below, meth, c, A, nL⟩ := X
  subst hst
  intro H locs L hR hS hL hk hn T hT X
  have hcode : (Cond.code y2 cc2 nl2 none).before args s = true := hX.wk hF.2.1 rfl
  have hpl : e.platform.magicAccessors = ({} : Platform).magicAccessors := by rw [X.admits.platform]
  have hlen : ∀ sig, parseMethodDescriptor y2.desc = some sig → av.length = sig.parameters.length := fun sig h => by
    have h9 := hF.2.2.2.1
    rw [h] at h9
    exact (Option.some.inj h9).symm
  rcases hw1 with hw1 | ⟨host, hw1⟩
  · obtain ⟨mk, methM, cM, kP, vm₁, hnamed, hmethM, hcodeM, -, hlocalsM, -, hkP, -, hW₁, hstep₁⟩ := Steps.initColdArgs (e := e) X.here hX.ex X.warmed hpl hX.ow hy1 hF.2.2.1 (hX.wk hw1 rfl) (hX.wk hw2 rfl) hcode (f := F0 m pc L (av.reverse ++ .ref b :: rest)) rfl hlen rfl (by rw [hX.cd]; exact hd)
    exact zcall_go hX hM hF hwt hd1 hk1 hn1 hd kk kx hR hS hL hT (X.noted hW₁) hnamed hstep₁
  · obtain ⟨mk, methM, cM, kP, vm₁, hnamed, hmethM, hcodeM, -, hlocalsM, -, hkP, -, hW₁, hstep₁⟩ := Steps.initColdArgsNest (e := e) X.here hX.ex X.warmed hpl hX.ow hy1 hF.2.2.1 (hX.wn hw1) (hX.wk hw2 rfl) hcode (f := F0 m pc L (av.reverse ++ .ref b :: rest)) rfl hlen rfl (by rw [hX.cd]; exact hd)
    exact zcall_go hX hM hF hwt hd1 hk1 hn1 hd kk kx hR hS hL hT (X.noted hW₁) hnamed hstep₁
end ZD
end
section
/-! exceptions: how one is caught here, or goes on to the caller -/
def zFt (e : Env) (S : State) (f : JFrame) (a : Addr) (h : Handler) (vm' : Vm) : Prop :=
  ∀ (Q : Handler → Pre) (E : CtlPost) (d : Bool) (acts : List Action), wp (findHandler f a) Q E e d acts S ↔ Q h d acts (S.setVm vm')
/-- a row of the table that doesn't take an object of class 'thrown', at the tables of s0 -/
def zPass (pl : Platform) (s0 : State) (dc : ClassId) (pc : Nat) (thrown : ClassId) (x : ExceptionTableEntry) : Prop :=
  covers x pc = false ∨ (x.catchType ≠ 0 ∧ ∃ c, s0.vm.ClassLinks pl dc x.catchType c ∧ s0.vm.assignable thrown c = false)
theorem zgo_one {Q : Handler → Pre} {E : CtlPost} {e : Env} {d : Bool} {acts : List Action} {S : State} {f : JFrame} {a : Addr} {x : ExceptionTableEntry} {t : List ExceptionTableEntry} {c : ClassId} {cell : Cell} (hx : covers x f.pc = true) (h0 : x.catchType ≠ 0)
    (hl : S.vm.ClassLinks e.platform f.method.cls x.catchType c) (hcell : S.heap[a]? = some cell) (hobj : ∀ k, cell.vm ≠ .statics k) (hk : ∃ k, S.vm.classes[cell.cls]? = some k) (hc : ∃ k, S.vm.classes[c]? = some k) :
    (S.vm.assignable cell.cls c = true → (wp (findHandler.go f a (x :: t)) Q E e d acts S ↔ Q (.found x.handlerPc) d acts (S.setVm (S.vm.noted f.method.cls x.catchType (.cls c))))) ∧
    (S.vm.assignable cell.cls c = false → (wp (findHandler.go f a (x :: t)) Q E e d acts S ↔ wp (findHandler.go f a t) Q E e d acts (S.setVm (S.vm.noted f.method.cls x.catchType (.cls c))))) := by
  simp only [covers] at hx
  obtain ⟨ha, ht⟩ := (resolveClass_links e.toSetting hl).op (op := VmOp.resolveClass f.method.cls x.catchType) rfl
  have hal : S.vm.Alike (S.vm.noted f.method.cls x.catchType (.cls c)) := (Vm.Alike.refl S.vm).noted _ _ _
  obtain ⟨k1, hk1⟩ := hk
  obtain ⟨k2, hk2⟩ := hc
  obtain ⟨k3, hk3, -⟩ := hal.2.2 _ _ hk1
  obtain ⟨k4, hk4, -⟩ := hal.2.2 _ _ hk2
  refine ⟨fun hf => ?_, fun hf => ?_⟩
  · have hf2 : (S.vm.noted f.method.cls x.catchType (.cls c)).assignable cell.cls c = true := by rw [hal.assignable]; exact hf
    simp [findHandler.go, hx, h0, ha, ht, hcell, hobj, hk3, hk4, hf2, VmOp.dirties, VmOp.acts]
  · have hf2 : (S.vm.noted f.method.cls x.catchType (.cls c)).assignable cell.cls c = false := by rw [hal.assignable]; exact hf
    simp [findHandler.go, hx, h0, ha, ht, hcell, hobj, hk3, hk4, hf2, VmOp.dirties, VmOp.acts]
theorem zgo_all {e : Env} {s0 : State} {f : JFrame} {a : Addr} {cell : Cell} (hobj : ∀ k, cell.vm ≠ .statics k) {k0 : Class} (hk0 : s0.vm.classes[cell.cls]? = some k0)
    (x : ExceptionTableEntry) (rest : List ExceptionTableEntry) (hx : covers x f.pc = true) (h0 : x.catchType ≠ 0) {c : ClassId} (hl : s0.vm.ClassLinks e.platform f.method.cls x.catchType c) (hfit : s0.vm.assignable cell.cls c = true) :
    ∀ (pre : List ExceptionTableEntry) (S : State), s0.WarmedH S.vm → S.heap[a]? = some cell → (∀ z ∈ pre, zPass e.platform s0 f.method.cls f.pc cell.cls z) →
      ∃ vm', s0.WarmedH vm' ∧ ∀ (Q : Handler → Pre) (E : CtlPost) (d : Bool) (acts : List Action), wp (findHandler.go f a (pre ++ x :: rest)) Q E e d acts S ↔ Q (.found x.handlerPc) d acts (S.setVm vm') := by
  intro pre
  induction pre with
  | nil =>
    intro S hW hcell _
    obtain ⟨k1, hk1, -⟩ := hW.alike.2.2 _ _ hk0
    obtain ⟨dk, _, _, kt, hd, _, _, _, _, hkt, _, hopen⟩ := hl.here
    obtain ⟨k2, hk2, -⟩ := hW.alike.2.2 _ _ hkt
    exact ⟨_, hW.noted hd hopen (State.rightAt_cls hl), fun Q E d acts => (zgo_one hx h0 (hW.classLinks hl) hcell hobj ⟨k1, hk1⟩ ⟨k2, hk2⟩).1 (by rw [hW.alike.assignable]; exact hfit)⟩
  | cons z zs ih =>
    intro S hW hcell hp
    obtain ⟨k1, hk1, -⟩ := hW.alike.2.2 _ _ hk0
    have hp2 : ∀ w ∈ zs, zPass e.platform s0 f.method.cls f.pc cell.cls w := fun w hw => hp w (List.mem_cons_of_mem _ hw)
    by_cases hcov : covers z f.pc = true
    · rcases hp z List.mem_cons_self with h | ⟨hz0, c9, hl9, hno⟩
      · rw [h] at hcov; cases hcov
      · obtain ⟨dk, _, _, kt, hd, _, _, _, _, hkt, _, hopen⟩ := hl9.here
        obtain ⟨k2, hk2, -⟩ := hW.alike.2.2 _ _ hkt
        obtain ⟨vm', hW', hq⟩ := ih (S.setVm (S.vm.noted f.method.cls z.catchType (.cls c9))) (hW.noted hd hopen (State.rightAt_cls hl9)) hcell hp2
        exact ⟨vm', hW', fun Q E d acts => ((zgo_one hcov hz0 (hW.classLinks hl9) hcell hobj ⟨k1, hk1⟩ ⟨k2, hk2⟩).2 (by rw [hW.alike.assignable]; exact hno)).trans (hq Q E d acts)⟩
    · obtain ⟨vm', hW', hq⟩ := ih S hW hcell hp2
      exact ⟨vm', hW', fun Q E d acts => by
        rw [List.cons_append, W.findHandler_go_skip (by simpa using hcov)]
        exact hq Q E d acts⟩
theorem zstep_catch {e : Env} {S : State} {a : Addr} {f : JFrame} {r : List Frame} {pc : Nat} {vm' : Vm} (hf : zFt e S f a (.found pc) vm') :
    (stepThrowing e S a (.java f :: r)).Is ((S.setVm vm').setFrames (.java { f with pc := pc, stack := [.ref a] } :: r)) [] := by
  simp only [stepThrowing, searchFrame, vmDo]
  generalize hr : Sem.go _ e false [] S = res
  obtain ⟨as, rfl, ha⟩ := Sem.eq_ok_of hr (a := Handler.found pc) (s' := S.setVm vm') (acts' := []) (by simp [hf _ _ _ _])
  exact ⟨rfl, ha⟩
theorem zcaught {tbl : Tables} {e : Env} {S target : State} {gf : JFrame} {c : Code} {below : List Frame} {a : Addr} (h : At S gf.method c below) {pc : Nat} {vm' : Vm}
    (hf : zFt e ((S.setTop gf).pushFrame (.throwing a)) gf a (.found pc) vm') (hr : Steps tbl e below ((S.setVm vm').setTop { gf with pc := pc, stack := [.ref a] }) target) :
    Steps tbl e below ((S.setTop gf).pushFrame (.throwing a)) target := by
  obtain ⟨hgo, hw⟩ := h.throwing a
  refine Steps.head hgo hw ?_
  rw [stepThread_throwing (frames_entered h.top _), (zstep_catch (S := (S.setTop gf).pushFrame (.throwing a)) hf).1]
  obtain ⟨g₀, hg⟩ := Option.isSome_iff_exists.mp h.top
  obtain ⟨r, hr0⟩ := State.topJava?_eq_some.mp hg
  have hr1 : (S.setVm vm').frames = .java g₀ :: r := hr0
  have key : ∀ (u : State) (F F2 : List Frame), ((u.setFrames F).setVm vm').setFrames F2 = (u.setVm vm').setFrames F2 := fun u F F2 => by
    have h1 : (u.setFrames F).setVm vm' = (u.setVm vm').setFrames F := rfl
    rw [h1, State.setFrames_setFrames]
  rw [State.setTop_of_frames _ hr1] at hr
  rw [hr0, List.tail_cons, State.pushFrame, key, State.setTop_of_frames _ hr0, key]
  exact hr
section ZEX
variable {g : zGt} {X : zX} {cc : ByteArray} {y : MethodName} {ret : Option FieldType} {tb : List (Nat × Nat × Nat × Nat)} {nl d mc ms : Nat} {Post : zRes → zG → Prop} {pc : Nat} {zl : List (Option Value)} {G : zG} {k n : Nat}
/-- it isn't caught here -/
theorem zt_out (hX : zOK g X cc y ret tb nl d mc ms) (hout : ∀ x ∈ tableOf tb, covers x pc = false) {E : String} (hp : Post (.inr E) G) : zt g X Post pc E zl G k n := by
  obtain ⟨p, e, R, s, m, args, below, meth, c, A, nL⟩ := X
  intro H locs L st q ce hR hS hL hk hn h1 h2 h3 T hT X
  obtain ⟨st1, hrun, hend, hW, hsm⟩ := X.leaveThrown q (g := F0 m pc L st) rfl rfl rfl (by rw [hX.tq]; exact hout) hX.lk
  have hh : (T.setFrames (.throwing q :: below)).heap = H := hT
  exact ⟨_, st1, .threw q, hrun, hend, .inr E, G, locs, hp, by rw [hh]; exact hR, hS.F hh, hW, hsm.mono hk hn, hS.2.2, q, ce, rfl, by rw [hh]; exact h1, h2, h3⟩
/-- it is caught by the row x of the table, behind rows that don't take it -/
theorem zt_catch (hX : zOK g X cc y ret tb nl d mc ms) {E name : String} (pre : List ExceptionTableEntry) (x : ExceptionTableEntry) (suf : List ExceptionTableEntry) (hsp : tableOf tb = pre ++ x :: suf)
    (hpass : ∀ z ∈ pre, covers z pc = false ∨ (z.catchType ≠ 0 ∧ ∃ nm : String, Cond.classLink y.cls z.catchType nm ∈ zTW ∧ Cond.not (.castable E nm) ∈ zTW)) (hx : covers x pc = true) (h0 : x.catchType ≠ 0)
    (hw1 : Cond.classLink y.cls x.catchType name ∈ zTW) (hw2 : Cond.castable E name ∈ zTW) (kk : ∀ q : Nat, zw g X Post x.handlerPc zl [.ref q] G k n) : zt g X Post pc E zl G k n := by
  obtain ⟨p, e, R, s, m, args, below, meth, c, A, nL⟩ := X
  intro H locs L st q ce hR hS hL hk hn h1 h2 h3 T hT X
  have hpl : e.platform.magicAccessors = ({} : Platform).magicAccessors := by rw [X.admits.platform]
  have hWm := hX.af.1
  obtain ⟨c3, c4, hc3, hc4, hasg⟩ := Cond.castable_spec (va_Nw.use (A := args) rfl (va_Nw.warmC hWm (va_Nw.of rfl (hX.gl.1 _ hw2))))
  cases Option.some.inj (hc3.symm.trans h3)
  obtain ⟨c5, hc5, hcl5⟩ := Cond.classLink_spec hX.ow (hX.wk hw1 rfl) e.platform hpl
  cases Option.some.inj (hc4.symm.trans hc5)
  obtain ⟨k9, h9, -⟩ := Vm.findClass_spec h3
  have hobj : ∀ kk, ce.vm ≠ .statics kk := fun kk h => by rw [h2] at h; cases h
  obtain ⟨vm', hW', hq⟩ := zgo_all (e := e) (s0 := s) (f := F0 m pc L st) (a := q) hobj h9 x suf hx h0 hcl5 hasg pre ((T.setTop (F0 m pc L st)).pushFrame (.throwing q)) X.warmed (by
      show T.heap[q]? = some ce
      rw [hT]; exact h1) (fun z hz => by
    rcases hpass z hz with h | ⟨hz0, nm, hl1, hn1⟩
    · exact Or.inl h
    · obtain ⟨c6, hc6, hcl6⟩ := Cond.classLink_spec hX.ow (hX.wk hl1 rfl) e.platform hpl
      have hnc : va_Nc E nm (zs0 g) := va_Nc.of (hX.gl.1 _ hn1)
      obtain ⟨a8, b8, g1, g2, g3⟩ := hnc.moved hWm.alike
      cases Option.some.inj (g1.symm.trans h3)
      cases Option.some.inj (g2.symm.trans hc6)
      exact Or.inr ⟨hz0, _, hcl6, g3⟩)
  obtain ⟨t, a1, b1⟩ := kk q H locs L hR hS hL hk hn (T.setVm vm') hT (X.noted hW')
  refine ⟨t, zcaught (gf := F0 m pc L st) X.here (vm' := vm') (pc := x.handlerPc) (fun Q E d acts => ?_) a1, b1⟩
  rw [W.findHandler_eq (meth := meth) (code := c) X.method' X.code, hX.tq, hsp]
  exact hq Q E d acts
end ZEX
/-! 'throw new E()' -/
/-- the same frame, seen from here: as if the method were called anew in this heap -/
theorem zanew {p : Program} {l : Launch} {e : Env} {R : Room} {s : State} {m : MethodId} {args : Array Value} {below : List Frame} {meth : Method} {c : Code} {T : State} {locs : List Loc} {k n : Nat} (X : Stand p l e R s m args below meth c T locs k n) (hc : k + 1 ≤ R.cells) (hs : n + 6 ≤ R.slots) :
    Stand p l e { frames := R.frames, locals := R.locals, cells := 1, slots := 6 } ((T.setVm s.vm).setFrames (.invoking m args :: below)) m args below meth c T [] 0 0 := by
  have htop : (T.setVm s.vm).topJava?.isSome := X.here.top
  have hF : ((T.setVm s.vm).setFrames (.invoking m args :: below)).frames = .invoking m args :: below := State.frames_setFrames _ (State.cur_lt_of_top htop)
  obtain ⟨g₀, hg0⟩ := Option.isSome_iff_exists.mp htop
  obtain ⟨r, hr⟩ := State.topJava?_eq_some.mp hg0
  have hl9 : e.platform.stackLimits (T.setVm s.vm).me = e.platform.stackLimits s.me := X.limits
  have hb9 : (T.setVm s.vm).me.stackBytes = s.me.stackBytes := X.bytes
  have hnil : (T.heap.toList.drop T.heap.size).map (fun z => z.slots.size) = [] := by
    rw [List.drop_eq_nil_of_le (Nat.le_of_eq Array.length_toList)]
    rfl
  refine ⟨X.admits, X.cas, X.clock, hF, ?_, X.hears, X.method, X.code, X.here, X.tail, X.warmed, ?_, ?_, ?_⟩
  · have h := X.room
    have hU : ((T.setVm s.vm).setFrames (.invoking m args :: below)).localsInUse = s.localsInUse := by
      rw [State.localsInUse_invoking hF (meth := meth) (c := c) X.method X.code, State.localsInUse_invoking X.frames X.method X.code]
    simp only [State.hasRoom, Bool.and_eq_true, decide_eq_true_eq] at h ⊢
    obtain ⟨⟨⟨⟨h1, h2, h3, h4, h5, h6⟩, h7⟩, h8⟩, h9⟩ := h
    rw [X.frames, List.length_cons] at h2 h3
    have q1 := X.heapSize
    have q2 := X.used
    simp only [hF, hU, List.length_cons, State.stackLimits_setFrames, State.stackBytes_setFrames, hl9, hb9]
    refine ⟨⟨⟨⟨by omega, by omega, by omega, by omega, by omega, h6⟩, ?_⟩, ?_⟩, X.book⟩
    · show T.heap.size + 1 ≤ e.platform.maxCells
      omega
    · show T.slotsUsed + 6 ≤ e.platform.maxSlots
      omega
  · rw [State.stackLimits_setFrames]; rfl
  · rw [State.stackBytes_setFrames]; rfl
  · refine ⟨?_, Nat.le_refl _, Nat.le_refl _, ?_, ?_, fun a c9 h9 => ⟨c9, h9, rfl, rfl, fun _ _ => rfl⟩⟩
    · obtain ⟨t, ht, -⟩ := State.frames_cons hr
      show T.setVm s.vm = { ((T.setVm s.vm).setFrames (.invoking m args :: below)).setFrames (T.setVm s.vm).frames with heap := T.heap, slotsUsed := T.slotsUsed }
      rw [State.setFrames_setFrames, State.setFrames_self ht]
      rfl
    · show T.slotsUsed = T.slotsUsed + ((T.heap.toList.drop T.heap.size).map (fun z => z.slots.size)).sum
      rw [hnil]
      rfl
    · show ((T.heap.toList.drop T.heap.size).map (fun z => z.slots.size)).sum ≤ 0
      rw [hnil]
      exact Nat.le_refl _
/-- words of the law's start, at a later state with the same old cells -/
theorem zlays_static {g : zGt} {U : State} {args : Array Value} (hA : zAft g U U.heap) {C n d : String} (h : (Cond.laysStatic C n d).before (za0 g) (zs0 g) = true) : (Cond.laysStatic C n d).before args U = true := by
  obtain ⟨c, k, i, f, a, cell, h1, h2, h3, h4, h5, h6, h7, h8, h9⟩ := Cond.laysStatic_spec h
  have hvm := hA.1.alike
  obtain ⟨k', hi', he⟩ := State.fieldFound?_setVm hvm h2
  show (Cond.laysStatic C n d).holds args U none U [] = true
  exact Cond.laysStatic_of (by rw [hvm.findClass]; exact h1) hi' h3 (by rw [he]; exact h4) (by rw [hA.2.2 a (Array.getElem?_eq_some_iff.mp h5).1]; exact h5) h6 h7 h8 (by rw [he]; exact h9)
theorem zref_static {g : zGt} {U : State} {args : Array Value} (hA : zAft g U U.heap) {C n d : String} (hl : (Cond.laysStatic C n d).before (za0 g) (zs0 g) = true) (hi : (Cond.initialized C).before (za0 g) (zs0 g) = true) (h : (Cond.isRef (.static C n d)).before (za0 g) (zs0 g) = true) : (Cond.isRef (.static C n d)).before args U = true := by
  have hz := va_Zqof (A := fun q => (zs0 g).heap.size ≤ q) hl hi h (fun a h1 h2 => by omega)
  have hz2 : va_Zq C n d (fun q => (zs0 g).heap.size ≤ q) U U.heap := va_Zq.moved hA.1.alike (va_Zq.kept hz (fun a h1 _ => hA.2.2 a h1))
  have key : ∀ v : Value, v.isRef = true → va_Z C n d v (fun q => (zs0 g).heap.size ≤ q) U U.heap → (Cond.isRef (.static C n d)).before args U = true := by
    intro v hv hz3
    obtain ⟨cf, kf, fi, f, a, cell, h1, h2, h3, h4, h5, h6, h7, -⟩ := hz3
    have he : (Term.static C n d).eval args U none [] U = some v := by
      simp [Term.eval, State.fieldNamed?, h1, h2, h4, h5, h6, h7]
    simp only [Cond.before, Cond.holds, Cond.value, he]
    cases v <;> simp_all [Value.isRef]
  rcases hz2 with h9 | ⟨t, h9⟩
  · exact key _ rfl h9
  · exact key _ rfl h9
def zheap (w : Cond) : Bool := decide (w = .isRef (.static Bundle.tN "UNASSIGNED_STACK" Bundle.steD)) || decide (w = .isRef (.static Bundle.tN "SUPPRESSED_SENTINEL" Bundle.listD)) || decide (w = .laysStatic Bundle.tN "UNASSIGNED_STACK" Bundle.steD) || decide (w = .laysStatic Bundle.tN "SUPPRESSED_SENTINEL" Bundle.listD)
def zkind (w : Cond) : Bool := match w with
  | .castable _ _ => true
  | w => goodWord w || zheap w
theorem zword {g : zGt} {U : State} {args : Array Value} (hg : zGl g) (hA : zAft g U U.heap) {w : Cond} (hw : w ∈ zTW) (hk : zkind w = true)
    (hq : Cond.laysStatic Bundle.tN "UNASSIGNED_STACK" Bundle.steD ∈ zTW ∧ Cond.laysStatic Bundle.tN "SUPPRESSED_SENTINEL" Bundle.listD ∈ zTW ∧ Cond.initialized Bundle.tN ∈ zTW) : w.before args U = true := by
  have h0 := hg.1 w hw
  have hgood : (goodWord w || zheap w) = true → w.before args U = true := by
    intro h
    rw [Bool.or_eq_true] at h
    rcases h with h | h
    · exact word_at hA.1 (good_of_word h) h0
    · simp only [zheap, Bool.or_eq_true, decide_eq_true_eq] at h
      rcases h with ((h | h) | h) | h
      · subst h; exact zref_static hA (hg.1 _ hq.1) (hg.1 _ hq.2.2) h0
      · subst h; exact zref_static hA (hg.1 _ hq.2.1) (hg.1 _ hq.2.2) h0
      · subst h; exact zlays_static hA h0
      · subst h; exact zlays_static hA h0
  unfold zkind at hk
  split at hk
  · exact va_Nw.use rfl (va_Nw.warmC hA.1 (va_Nw.of rfl h0))
  · exact hgood hk
theorem zr_throw0 {g : zGt} {X : zX} {cc : ByteArray} {y : MethodName} {ret : Option FieldType} {tb : List (Nat × Nat × Nat × Nat)} {nl d mc ms : Nat} {Post : zRes → zG → Prop} {pc : Nat} {zl : List (Option Value)} {G : zG} {k n : Nat} (hX : zOK g X cc y ret tb nl d mc ms) {st : List Value} {E : String} {names : List String} {ik ic : Nat} (hE : Bundle.fit E = true) (hns : ∀ n ∈ names, Bundle.fit n = true)
    (hat : ∀ w ∈ Cond.classLink y.cls ik E :: Cond.initialized E :: Bundle.ownAtoms0 y.cls ic E names, w ∈ zTW ∧ zkind w = true) (hq : Cond.laysStatic Bundle.tN "UNASSIGNED_STACK" Bundle.steD ∈ zTW ∧ Cond.laysStatic Bundle.tN "SUPPRESSED_SENTINEL" Bundle.listD ∈ zTW ∧ Cond.initialized Bundle.tN ∈ zTW)
    (d0 : decode cc pc = .ok (.new ik, 3)) (d3 : decode cc (pc + 3) = .ok (.dup, 1)) (d4 : decode cc (pc + 4) = .ok (.invokespecial ic, 3)) (d7 : decode cc (pc + 7) = .ok (.athrow, 1)) (hout : ∀ x ∈ tableOf tb, covers x (pc + 7) = false)
    (hd1 : names.length + 4 ≤ d) (hwt : (st.map fun v => v.category).sum ≤ 12) (hk1 : k + 1 ≤ mc) (hn1 : n + 6 ≤ ms) (hp : Post (.inr E) G) : zw g X Post pc zl st G k n := by
  obtain ⟨p, e, R, s, m, args, below, meth, c, A, nL⟩ := X
  intro H locs L hR hS hL hk hn T hT X
  have hrm := hX.rm
  have c1 : k + 1 ≤ R.cells := by rw [hrm]; exact hk1
  have c2 : n + 6 ≤ R.slots := by rw [hrm]; exact hn1
  have c3 : names.length + 3 < R.frames := by rw [hrm]; show _ < d; omega
  have c4 : (st.map fun v => v.category).sum + (13 * (names.length + 1) + 43) ≤ R.locals := by rw [hrm]; show _ ≤ 64 * d; omega
  have htr : e.platform.stackTraces = false := (show e.platform.stackTraces = (zl0 g).stackTraces by rw [X.admits.platform]).trans hX.gl.2.2
  have Y := zanew X c1 c2
  obtain ⟨s', hA⟩ : ∃ z, z = (T.setVm s.vm).setFrames (.invoking m args :: below) := ⟨_, rfl⟩
  rw [← hA] at Y
  have hvm : s'.vm = s.vm := by rw [hA]; rfl
  have hhp : s'.heap = H := by rw [hA]; exact hT
  have hAf : zAft g s' s'.heap := by
    rw [hhp]
    exact zAft.to hX.af (by rw [hvm]; exact State.WarmedH.refl s) hX.A0 hS.1 hS.2.1
  have hat' : ∀ w ∈ Cond.classLink y.cls ik E :: Cond.initialized E :: Bundle.ownAtoms0 y.cls ic E names, w.before args s' = true := fun w hw => zword hX.gl hAf (hat w hw).1 (hat w hw).2 hq
  have h : ∀ w ∈ Bundle.ownAtoms0 y.cls ic E names, w.before args s' = true := fun w hw => hat' w (List.mem_cons_of_mem _ (List.mem_cons_of_mem _ hw))
  have hown' : s'.vm.findClass y.cls = some m.cls := by rw [hvm]; exact hX.ow
  have hins : (Cond.instantiable E 6).before args s' = true := h _ (by simp [Bundle.ownAtoms0])
  obtain ⟨vm₁, cX, kX, hfX, hkX, -, -, X₁, st1⟩ := Y.newCold hX.ex (own := y.cls) (C := E) (index := ik) (n := 6) hown' (hat' _ List.mem_cons_self) hins (hat' _ (List.mem_cons_of_mem _ List.mem_cons_self))
    (g := F0 m pc L st) rfl (by rw [hX.cd]; exact d0) (Nat.le_refl _) (Nat.le_refl _)
  generalize hT1 : (T.setVm vm₁).pushCell { cls := cX, slots := kX.instanceTypes.map defaultValue, vm := .none } = T1 at X₁ st1
  have hcat : (Value.ref T.heap.size).category = 1 := rfl
  have hcellA : T1.heap[T.heap.size]? = some (freshCell cX kX) := by rw [← hT1]; exact State.heap_pushCell_size _ _
  have d3' : decode c.code (pc + 3) = .ok (.dup, 1) := by rw [hX.cd]; exact d3
  obtain ⟨U, hsteps, hrun, hend, hW, hsame, ce, hce, hO⟩ := X₁.ctorThrow0 hX.ex htr (own := y.cls) (cls := E) (names := names) (ic := ic) hown' hE hns h (fun x hx => nomatch hx) hfX hkX hcellA (by rw [hhp, hT]; exact Nat.le_refl _)
    (g := { method := m, pc := pc + 4, locals := L, stack := .ref T.heap.size :: .ref T.heap.size :: st, locked := none }) rfl (by rw [hX.ml]; exact hL.size) rfl rfl (rest := st) rfl
    (by rw [hX.cd]; exact d4) (by rw [hX.cd]; exact d7) (by rw [hX.tq]; exact hout) c3 (by simp only [List.map_cons, List.sum_cons, hcat]; show 2 * 0 + _ + _ ≤ R.locals; omega) hX.lk
  have hfr : H.size ≤ U.heap.size ∧ ∀ q : Nat, q < H.size → U.heap[q]? = H[q]? := by
    obtain ⟨-, h2, -, -, -, h6⟩ := hsame
    rw [hhp] at h2
    refine ⟨h2, fun q hq9 => ?_⟩
    have hq8 : q < s'.heap.size := by rw [hhp]; exact hq9
    obtain ⟨c9, e1, e2, e3, e4⟩ := h6 q _ (Array.getElem?_eq_getElem hq8)
    have hs9 : c9.slots = (s'.heap[q]).slots := Array.ext_getElem? fun i => e4 i fun hm => nomatch hm
    have h9 : c9 = s'.heap[q] := by
      rw [hs9] at e2
      exact e2
    have e5 : U.heap[q]? = some c9 := e1
    rw [e5, h9, ← Array.getElem?_eq_getElem hq8, hhp]
  have hWs : s.WarmedH U.vm := by
    have h9 : s'.WarmedH U.vm := hW
    exact State.WarmedH.trans (show s.WarmedH s'.vm by rw [hvm]; exact State.WarmedH.refl s) h9
  have hcl : s.vm.findClass E = some ce.cls := by
    have h9 := hO.cls
    rw [hvm] at h9
    exact h9
  have hall : s.sameButNew ({ U with vm := s.vm } : State) locs R.cells R.slots := by
    subst hA
    obtain ⟨e1, e2⟩ := hsame
    rw [State.setFrames_setFrames] at e1
    have h2 : (T.setVm s.vm).sameButNew ({ U with vm := s.vm } : State) [] (0 + 1) (0 + 6) := ⟨e1, e2⟩
    have h3 := X.same.trans h2
    rw [List.append_nil] at h3
    exact h3.mono (by omega) (by omega)
  refine ⟨U, ?_, .threw T.heap.size, hrun, hend, .inr E, G, locs, hp, hR.kept hfr.2, ⟨Nat.le_trans hS.1 hfr.1, fun q h1 h2 => by rw [hfr.2 q (Nat.lt_of_lt_of_le h1 hS.1)]; exact hS.2.1 q h1 h2⟩, hWs, hall, hS.2.2, _, ce, rfl, hce, hO.vm, hcl⟩
  refine st1 _ ?_
  show Steps p.tables e below (T1.setTop { method := m, pc := pc + 3, locals := L, stack := .ref T.heap.size :: st, locked := none }) _
  jvm_step X₁.here [X₁.here.top, hX.ex, d3', Value.category]
  exact hsteps
end

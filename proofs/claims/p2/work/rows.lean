section
-- ===== PART A: goes FIRST, ahead of the names: the tables' words, and 'selects' of the private methods out of them =====
/-- a private method of a class that the tables say can be made, by its rows of tables_1 -/
def lw_okq (q : MethodName × Nat) : Prop := (q.1.cls ≠ "java/lang/invoke/MethodHandle" ∧ q.1.cls ≠ "java/lang/invoke/VarHandle") ∧ Cond.instantiable q.1.cls q.2 ∈ tables_1 ∧ Cond.privateMethod q.1 ∈ tables_1 ∧ Cond.instanceMethod q.1 ∈ tables_1
theorem lw_p0 : lw_okq (⟨"MountTable", "mountThere", "(I)LMountTable$Mount;"⟩, 11) := ⟨⟨by decide +kernel, by decide +kernel⟩, List.mem_of_getElem? (i := 18) (by decide +kernel), List.mem_of_getElem? (i := 71) (by decide +kernel), List.mem_of_getElem? (i := 72) (by decide +kernel)⟩
theorem lw_p1 : lw_okq (⟨"MountTable", "serverAt", "(I)I"⟩, 11) := ⟨⟨by decide +kernel, by decide +kernel⟩, List.mem_of_getElem? (i := 18) (by decide +kernel), List.mem_of_getElem? (i := 78) (by decide +kernel), List.mem_of_getElem? (i := 79) (by decide +kernel)⟩
theorem lw_p2 : lw_okq (⟨"MountTable", "allBytes", "()I"⟩, 11) := ⟨⟨by decide +kernel, by decide +kernel⟩, List.mem_of_getElem? (i := 18) (by decide +kernel), List.mem_of_getElem? (i := 89) (by decide +kernel), List.mem_of_getElem? (i := 90) (by decide +kernel)⟩
theorem lw_p3 : lw_okq (⟨"MountTable", "usedBy", "(I)I"⟩, 11) := ⟨⟨by decide +kernel, by decide +kernel⟩, List.mem_of_getElem? (i := 18) (by decide +kernel), List.mem_of_getElem? (i := 93) (by decide +kernel), List.mem_of_getElem? (i := 94) (by decide +kernel)⟩
theorem lw_p4 : lw_okq (⟨"MountTable", "shownBytes", "()I"⟩, 11) := ⟨⟨by decide +kernel, by decide +kernel⟩, List.mem_of_getElem? (i := 18) (by decide +kernel), List.mem_of_getElem? (i := 100) (by decide +kernel), List.mem_of_getElem? (i := 101) (by decide +kernel)⟩
theorem lw_p5 : lw_okq (⟨"MountTable", "layerAt", "(I)LMountTable$Layer;"⟩, 11) := ⟨⟨by decide +kernel, by decide +kernel⟩, List.mem_of_getElem? (i := 18) (by decide +kernel), List.mem_of_getElem? (i := 104) (by decide +kernel), List.mem_of_getElem? (i := 105) (by decide +kernel)⟩
theorem lw_p6 : lw_okq (⟨"MountTable", "layerShown", "(I)I"⟩, 11) := ⟨⟨by decide +kernel, by decide +kernel⟩, List.mem_of_getElem? (i := 18) (by decide +kernel), List.mem_of_getElem? (i := 112) (by decide +kernel), List.mem_of_getElem? (i := 113) (by decide +kernel)⟩
theorem lw_p7 : lw_okq (⟨"MountTable", "restAt", "(I)I"⟩, 11) := ⟨⟨by decide +kernel, by decide +kernel⟩, List.mem_of_getElem? (i := 18) (by decide +kernel), List.mem_of_getElem? (i := 116) (by decide +kernel), List.mem_of_getElem? (i := 117) (by decide +kernel)⟩
theorem lw_p8 : lw_okq (⟨"MountTable", "layerShownBy", "(LMountTable$Mount;I)I"⟩, 11) := ⟨⟨by decide +kernel, by decide +kernel⟩, List.mem_of_getElem? (i := 18) (by decide +kernel), List.mem_of_getElem? (i := 120) (by decide +kernel), List.mem_of_getElem? (i := 121) (by decide +kernel)⟩
theorem lw_p9 : lw_okq (⟨"MountTable", "kindIn", "(II)I"⟩, 11) := ⟨⟨by decide +kernel, by decide +kernel⟩, List.mem_of_getElem? (i := 18) (by decide +kernel), List.mem_of_getElem? (i := 124) (by decide +kernel), List.mem_of_getElem? (i := 125) (by decide +kernel)⟩
theorem lw_p10 : lw_okq (⟨"java/lang/Throwable", "fillInStackTrace", "(I)Ljava/lang/Throwable;"⟩, 6) := ⟨⟨by decide +kernel, by decide +kernel⟩, List.mem_of_getElem? (i := 203) (by decide +kernel), List.mem_of_getElem? (i := 201) (by decide +kernel), List.mem_of_getElem? (i := 202) (by decide +kernel)⟩
theorem lw_p11 : lw_okq (⟨"MountTable", "isUpperOfSome", "(I)Z"⟩, 11) := ⟨⟨by decide +kernel, by decide +kernel⟩, List.mem_of_getElem? (i := 18) (by decide +kernel), List.mem_of_getElem? (i := 314) (by decide +kernel), List.mem_of_getElem? (i := 315) (by decide +kernel)⟩
theorem lw_p12 : lw_okq (⟨"MountTable", "isInSome", "(I)Z"⟩, 11) := ⟨⟨by decide +kernel, by decide +kernel⟩, List.mem_of_getElem? (i := 18) (by decide +kernel), List.mem_of_getElem? (i := 318) (by decide +kernel), List.mem_of_getElem? (i := 319) (by decide +kernel)⟩
theorem lw_p13 : lw_okq (⟨"MountTable", "serveAgain", "()V"⟩, 11) := ⟨⟨by decide +kernel, by decide +kernel⟩, List.mem_of_getElem? (i := 18) (by decide +kernel), List.mem_of_getElem? (i := 364) (by decide +kernel), List.mem_of_getElem? (i := 365) (by decide +kernel)⟩
theorem lw_p14 : lw_okq (⟨"MountTable", "serveBehind", "(II)V"⟩, 11) := ⟨⟨by decide +kernel, by decide +kernel⟩, List.mem_of_getElem? (i := 18) (by decide +kernel), List.mem_of_getElem? (i := 368) (by decide +kernel), List.mem_of_getElem? (i := 369) (by decide +kernel)⟩
theorem lw_p15 : lw_okq (⟨"MountTable", "checkedMount", "(I)LMountTable$Mount;"⟩, 11) := ⟨⟨by decide +kernel, by decide +kernel⟩, List.mem_of_getElem? (i := 18) (by decide +kernel), List.mem_of_getElem? (i := 379) (by decide +kernel), List.mem_of_getElem? (i := 380) (by decide +kernel)⟩
def lw_privs_1 : List (MethodName × Nat) := [(⟨"MountTable", "mountThere", "(I)LMountTable$Mount;"⟩, 11), (⟨"MountTable", "serverAt", "(I)I"⟩, 11), (⟨"MountTable", "allBytes", "()I"⟩, 11), (⟨"MountTable", "usedBy", "(I)I"⟩, 11), (⟨"MountTable", "shownBytes", "()I"⟩, 11), (⟨"MountTable", "layerAt", "(I)LMountTable$Layer;"⟩, 11), (⟨"MountTable", "layerShown", "(I)I"⟩, 11), (⟨"MountTable", "restAt", "(I)I"⟩, 11), (⟨"MountTable", "layerShownBy", "(LMountTable$Mount;I)I"⟩, 11), (⟨"MountTable", "kindIn", "(II)I"⟩, 11), (⟨"java/lang/Throwable", "fillInStackTrace", "(I)Ljava/lang/Throwable;"⟩, 6), (⟨"MountTable", "isUpperOfSome", "(I)Z"⟩, 11), (⟨"MountTable", "isInSome", "(I)Z"⟩, 11), (⟨"MountTable", "serveAgain", "()V"⟩, 11), (⟨"MountTable", "serveBehind", "(II)V"⟩, 11), (⟨"MountTable", "checkedMount", "(I)LMountTable$Mount;"⟩, 11)]
theorem lw_r1 : ∀ q ∈ lw_privs_1, lw_okq q := List.forall_mem_cons.mpr ⟨lw_p0, List.forall_mem_cons.mpr ⟨lw_p1, List.forall_mem_cons.mpr ⟨lw_p2, List.forall_mem_cons.mpr ⟨lw_p3, List.forall_mem_cons.mpr ⟨lw_p4, List.forall_mem_cons.mpr ⟨lw_p5, List.forall_mem_cons.mpr ⟨lw_p6, List.forall_mem_cons.mpr ⟨lw_p7, List.forall_mem_cons.mpr ⟨lw_p8, List.forall_mem_cons.mpr ⟨lw_p9, List.forall_mem_cons.mpr ⟨lw_p10, List.forall_mem_cons.mpr ⟨lw_p11, List.forall_mem_cons.mpr ⟨lw_p12, List.forall_mem_cons.mpr ⟨lw_p13, List.forall_mem_cons.mpr ⟨lw_p14, List.forall_mem_cons.mpr ⟨lw_p15, fun _ h => absurd h List.not_mem_nil⟩⟩⟩⟩⟩⟩⟩⟩⟩⟩⟩⟩⟩⟩⟩⟩
theorem lw_p16 : lw_okq (⟨"MountTable", "layerToWrite", "(I)LMountTable$Layer;"⟩, 11) := ⟨⟨by decide +kernel, by decide +kernel⟩, List.mem_of_getElem? (i := 18) (by decide +kernel), List.mem_of_getElem? (i := 438) (by decide +kernel), List.mem_of_getElem? (i := 439) (by decide +kernel)⟩
theorem lw_p17 : lw_okq (⟨"MountTable", "quotaOf", "(I)I"⟩, 11) := ⟨⟨by decide +kernel, by decide +kernel⟩, List.mem_of_getElem? (i := 18) (by decide +kernel), List.mem_of_getElem? (i := 455) (by decide +kernel), List.mem_of_getElem? (i := 456) (by decide +kernel)⟩
theorem lw_p18 : lw_okq (⟨"MountTable", "putAt", "(ILMountTable$Layer;III)V"⟩, 11) := ⟨⟨by decide +kernel, by decide +kernel⟩, List.mem_of_getElem? (i := 18) (by decide +kernel), List.mem_of_getElem? (i := 460) (by decide +kernel), List.mem_of_getElem? (i := 461) (by decide +kernel)⟩
theorem lw_p19 : lw_okq (⟨"MountTable", "change", "(LMountTable$Layer;IIII)V"⟩, 11) := ⟨⟨by decide +kernel, by decide +kernel⟩, List.mem_of_getElem? (i := 18) (by decide +kernel), List.mem_of_getElem? (i := 464) (by decide +kernel), List.mem_of_getElem? (i := 465) (by decide +kernel)⟩
theorem lw_p20 : lw_okq (⟨"MountTable", "use", "(II)V"⟩, 11) := ⟨⟨by decide +kernel, by decide +kernel⟩, List.mem_of_getElem? (i := 18) (by decide +kernel), List.mem_of_getElem? (i := 470) (by decide +kernel), List.mem_of_getElem? (i := 471) (by decide +kernel)⟩
theorem lw_p21 : lw_okq (⟨"MountTable", "checkedShown", "(I)LMountTable$Layer;"⟩, 11) := ⟨⟨by decide +kernel, by decide +kernel⟩, List.mem_of_getElem? (i := 18) (by decide +kernel), List.mem_of_getElem? (i := 496) (by decide +kernel), List.mem_of_getElem? (i := 497) (by decide +kernel)⟩
theorem lw_p22 : lw_okq (⟨"MountTable", "endOfLinks", "(I)I"⟩, 11) := ⟨⟨by decide +kernel, by decide +kernel⟩, List.mem_of_getElem? (i := 18) (by decide +kernel), List.mem_of_getElem? (i := 522) (by decide +kernel), List.mem_of_getElem? (i := 523) (by decide +kernel)⟩
theorem lw_p23 : lw_okq (⟨"MountTable", "mayLead", "(II)Z"⟩, 11) := ⟨⟨by decide +kernel, by decide +kernel⟩, List.mem_of_getElem? (i := 18) (by decide +kernel), List.mem_of_getElem? (i := 527) (by decide +kernel), List.mem_of_getElem? (i := 528) (by decide +kernel)⟩
theorem lw_p24 : lw_okq (⟨"MountTable", "shownFileSize", "(I)I"⟩, 11) := ⟨⟨by decide +kernel, by decide +kernel⟩, List.mem_of_getElem? (i := 18) (by decide +kernel), List.mem_of_getElem? (i := 540) (by decide +kernel), List.mem_of_getElem? (i := 541) (by decide +kernel)⟩
theorem lw_p25 : lw_okq (⟨"MountTable", "fileSizeIn", "(II)I"⟩, 11) := ⟨⟨by decide +kernel, by decide +kernel⟩, List.mem_of_getElem? (i := 18) (by decide +kernel), List.mem_of_getElem? (i := 544) (by decide +kernel), List.mem_of_getElem? (i := 545) (by decide +kernel)⟩
theorem lw_p26 : lw_okq (⟨"MountTable", "checkedLayer", "(I)LMountTable$Layer;"⟩, 11) := ⟨⟨by decide +kernel, by decide +kernel⟩, List.mem_of_getElem? (i := 18) (by decide +kernel), List.mem_of_getElem? (i := 605) (by decide +kernel), List.mem_of_getElem? (i := 606) (by decide +kernel)⟩
theorem lw_p27 : lw_okq (⟨"MountTable", "sizeNow", "(ZI)I"⟩, 11) := ⟨⟨by decide +kernel, by decide +kernel⟩, List.mem_of_getElem? (i := 18) (by decide +kernel), List.mem_of_getElem? (i := 631) (by decide +kernel), List.mem_of_getElem? (i := 632) (by decide +kernel)⟩
theorem lw_p28 : lw_okq (⟨"MountTable", "checkedBackup", "(I)LMountTable$Backup;"⟩, 11) := ⟨⟨by decide +kernel, by decide +kernel⟩, List.mem_of_getElem? (i := 18) (by decide +kernel), List.mem_of_getElem? (i := 642) (by decide +kernel), List.mem_of_getElem? (i := 643) (by decide +kernel)⟩
theorem lw_p29 : lw_okq (⟨"MountTableModel", "isLayer", "(I)Z"⟩, 16) := ⟨⟨by decide +kernel, by decide +kernel⟩, List.mem_of_getElem? (i := 694) (by decide +kernel), List.mem_of_getElem? (i := 769) (by decide +kernel), List.mem_of_getElem? (i := 770) (by decide +kernel)⟩
theorem lw_p30 : lw_okq (⟨"MountTableModel", "isUpper", "(I)Z"⟩, 16) := ⟨⟨by decide +kernel, by decide +kernel⟩, List.mem_of_getElem? (i := 694) (by decide +kernel), List.mem_of_getElem? (i := 773) (by decide +kernel), List.mem_of_getElem? (i := 774) (by decide +kernel)⟩
theorem lw_p31 : lw_okq (⟨"MountTableModel", "isUsed", "(I)Z"⟩, 16) := ⟨⟨by decide +kernel, by decide +kernel⟩, List.mem_of_getElem? (i := 694) (by decide +kernel), List.mem_of_getElem? (i := 777) (by decide +kernel), List.mem_of_getElem? (i := 778) (by decide +kernel)⟩
def lw_privs_2 : List (MethodName × Nat) := [(⟨"MountTable", "layerToWrite", "(I)LMountTable$Layer;"⟩, 11), (⟨"MountTable", "quotaOf", "(I)I"⟩, 11), (⟨"MountTable", "putAt", "(ILMountTable$Layer;III)V"⟩, 11), (⟨"MountTable", "change", "(LMountTable$Layer;IIII)V"⟩, 11), (⟨"MountTable", "use", "(II)V"⟩, 11), (⟨"MountTable", "checkedShown", "(I)LMountTable$Layer;"⟩, 11), (⟨"MountTable", "endOfLinks", "(I)I"⟩, 11), (⟨"MountTable", "mayLead", "(II)Z"⟩, 11), (⟨"MountTable", "shownFileSize", "(I)I"⟩, 11), (⟨"MountTable", "fileSizeIn", "(II)I"⟩, 11), (⟨"MountTable", "checkedLayer", "(I)LMountTable$Layer;"⟩, 11), (⟨"MountTable", "sizeNow", "(ZI)I"⟩, 11), (⟨"MountTable", "checkedBackup", "(I)LMountTable$Backup;"⟩, 11), (⟨"MountTableModel", "isLayer", "(I)Z"⟩, 16), (⟨"MountTableModel", "isUpper", "(I)Z"⟩, 16), (⟨"MountTableModel", "isUsed", "(I)Z"⟩, 16)]
theorem lw_r2 : ∀ q ∈ lw_privs_2, lw_okq q := List.forall_mem_cons.mpr ⟨lw_p16, List.forall_mem_cons.mpr ⟨lw_p17, List.forall_mem_cons.mpr ⟨lw_p18, List.forall_mem_cons.mpr ⟨lw_p19, List.forall_mem_cons.mpr ⟨lw_p20, List.forall_mem_cons.mpr ⟨lw_p21, List.forall_mem_cons.mpr ⟨lw_p22, List.forall_mem_cons.mpr ⟨lw_p23, List.forall_mem_cons.mpr ⟨lw_p24, List.forall_mem_cons.mpr ⟨lw_p25, List.forall_mem_cons.mpr ⟨lw_p26, List.forall_mem_cons.mpr ⟨lw_p27, List.forall_mem_cons.mpr ⟨lw_p28, List.forall_mem_cons.mpr ⟨lw_p29, List.forall_mem_cons.mpr ⟨lw_p30, List.forall_mem_cons.mpr ⟨lw_p31, fun _ h => absurd h List.not_mem_nil⟩⟩⟩⟩⟩⟩⟩⟩⟩⟩⟩⟩⟩⟩⟩⟩
theorem lw_p32 : lw_okq (⟨"MountTableModel", "isMount", "(I)Z"⟩, 16) := ⟨⟨by decide +kernel, by decide +kernel⟩, List.mem_of_getElem? (i := 694) (by decide +kernel), List.mem_of_getElem? (i := 785) (by decide +kernel), List.mem_of_getElem? (i := 786) (by decide +kernel)⟩
theorem lw_p33 : lw_okq (⟨"MountTableModel", "servedBy", "(I)I"⟩, 16) := ⟨⟨by decide +kernel, by decide +kernel⟩, List.mem_of_getElem? (i := 694) (by decide +kernel), List.mem_of_getElem? (i := 801) (by decide +kernel), List.mem_of_getElem? (i := 802) (by decide +kernel)⟩
theorem lw_p34 : lw_okq (⟨"MountTableModel", "canWrite", "(I)Z"⟩, 16) := ⟨⟨by decide +kernel, by decide +kernel⟩, List.mem_of_getElem? (i := 694) (by decide +kernel), List.mem_of_getElem? (i := 830) (by decide +kernel), List.mem_of_getElem? (i := 831) (by decide +kernel)⟩
theorem lw_p35 : lw_okq (⟨"MountTableModel", "target", "(I)I"⟩, 16) := ⟨⟨by decide +kernel, by decide +kernel⟩, List.mem_of_getElem? (i := 694) (by decide +kernel), List.mem_of_getElem? (i := 837) (by decide +kernel), List.mem_of_getElem? (i := 838) (by decide +kernel)⟩
theorem lw_p36 : lw_okq (⟨"MountTableModel", "used", "(II)I"⟩, 16) := ⟨⟨by decide +kernel, by decide +kernel⟩, List.mem_of_getElem? (i := 694) (by decide +kernel), List.mem_of_getElem? (i := 844) (by decide +kernel), List.mem_of_getElem? (i := 845) (by decide +kernel)⟩
theorem lw_p37 : lw_okq (⟨"MountTableModel", "puts", "(IIII)V"⟩, 16) := ⟨⟨by decide +kernel, by decide +kernel⟩, List.mem_of_getElem? (i := 694) (by decide +kernel), List.mem_of_getElem? (i := 848) (by decide +kernel), List.mem_of_getElem? (i := 849) (by decide +kernel)⟩
theorem lw_p38 : lw_okq (⟨"MountTableModel", "shown", "(I)I"⟩, 16) := ⟨⟨by decide +kernel, by decide +kernel⟩, List.mem_of_getElem? (i := 694) (by decide +kernel), List.mem_of_getElem? (i := 852) (by decide +kernel), List.mem_of_getElem? (i := 853) (by decide +kernel)⟩
theorem lw_p39 : lw_okq (⟨"MountTableModel", "asks", "(I)Z"⟩, 16) := ⟨⟨by decide +kernel, by decide +kernel⟩, List.mem_of_getElem? (i := 694) (by decide +kernel), List.mem_of_getElem? (i := 864) (by decide +kernel), List.mem_of_getElem? (i := 865) (by decide +kernel)⟩
theorem lw_p40 : lw_okq (⟨"MountTableModel", "asksShown", "(I)Z"⟩, 16) := ⟨⟨by decide +kernel, by decide +kernel⟩, List.mem_of_getElem? (i := 694) (by decide +kernel), List.mem_of_getElem? (i := 876) (by decide +kernel), List.mem_of_getElem? (i := 877) (by decide +kernel)⟩
theorem lw_p41 : lw_okq (⟨"MountTableModel", "bytesOfAll", "()I"⟩, 16) := ⟨⟨by decide +kernel, by decide +kernel⟩, List.mem_of_getElem? (i := 694) (by decide +kernel), List.mem_of_getElem? (i := 915) (by decide +kernel), List.mem_of_getElem? (i := 916) (by decide +kernel)⟩
theorem lw_p42 : lw_okq (⟨"MountTableModel", "bytesShown", "()I"⟩, 16) := ⟨⟨by decide +kernel, by decide +kernel⟩, List.mem_of_getElem? (i := 694) (by decide +kernel), List.mem_of_getElem? (i := 919) (by decide +kernel), List.mem_of_getElem? (i := 920) (by decide +kernel)⟩
theorem lw_p43 : lw_okq (⟨"MountTableModel", "count", "(II)I"⟩, 16) := ⟨⟨by decide +kernel, by decide +kernel⟩, List.mem_of_getElem? (i := 694) (by decide +kernel), List.mem_of_getElem? (i := 931) (by decide +kernel), List.mem_of_getElem? (i := 932) (by decide +kernel)⟩
theorem lw_p44 : lw_okq (⟨"MountTableModel", "nowAt", "(ZI)I"⟩, 16) := ⟨⟨by decide +kernel, by decide +kernel⟩, List.mem_of_getElem? (i := 694) (by decide +kernel), List.mem_of_getElem? (i := 939) (by decide +kernel), List.mem_of_getElem? (i := 940) (by decide +kernel)⟩
theorem lw_p45 : lw_okq (⟨"MountTableModel", "isBackup", "(I)Z"⟩, 16) := ⟨⟨by decide +kernel, by decide +kernel⟩, List.mem_of_getElem? (i := 694) (by decide +kernel), List.mem_of_getElem? (i := 947) (by decide +kernel), List.mem_of_getElem? (i := 948) (by decide +kernel)⟩
def lw_privs_3 : List (MethodName × Nat) := [(⟨"MountTableModel", "isMount", "(I)Z"⟩, 16), (⟨"MountTableModel", "servedBy", "(I)I"⟩, 16), (⟨"MountTableModel", "canWrite", "(I)Z"⟩, 16), (⟨"MountTableModel", "target", "(I)I"⟩, 16), (⟨"MountTableModel", "used", "(II)I"⟩, 16), (⟨"MountTableModel", "puts", "(IIII)V"⟩, 16), (⟨"MountTableModel", "shown", "(I)I"⟩, 16), (⟨"MountTableModel", "asks", "(I)Z"⟩, 16), (⟨"MountTableModel", "asksShown", "(I)Z"⟩, 16), (⟨"MountTableModel", "bytesOfAll", "()I"⟩, 16), (⟨"MountTableModel", "bytesShown", "()I"⟩, 16), (⟨"MountTableModel", "count", "(II)I"⟩, 16), (⟨"MountTableModel", "nowAt", "(ZI)I"⟩, 16), (⟨"MountTableModel", "isBackup", "(I)Z"⟩, 16)]
theorem lw_r3 : ∀ q ∈ lw_privs_3, lw_okq q := List.forall_mem_cons.mpr ⟨lw_p32, List.forall_mem_cons.mpr ⟨lw_p33, List.forall_mem_cons.mpr ⟨lw_p34, List.forall_mem_cons.mpr ⟨lw_p35, List.forall_mem_cons.mpr ⟨lw_p36, List.forall_mem_cons.mpr ⟨lw_p37, List.forall_mem_cons.mpr ⟨lw_p38, List.forall_mem_cons.mpr ⟨lw_p39, List.forall_mem_cons.mpr ⟨lw_p40, List.forall_mem_cons.mpr ⟨lw_p41, List.forall_mem_cons.mpr ⟨lw_p42, List.forall_mem_cons.mpr ⟨lw_p43, List.forall_mem_cons.mpr ⟨lw_p44, List.forall_mem_cons.mpr ⟨lw_p45, fun _ h => absurd h List.not_mem_nil⟩⟩⟩⟩⟩⟩⟩⟩⟩⟩⟩⟩⟩⟩
def lw_privs : List (MethodName × Nat) := lw_privs_1 ++ (lw_privs_2 ++ (lw_privs_3))
def lw_tbl : List Cond := k2_sels lw_privs ++ tables_1
theorem lw_privs_ok : ∀ q ∈ lw_privs, lw_okq q := by
  show ∀ q ∈ lw_privs_1 ++ (lw_privs_2 ++ (lw_privs_3)), lw_okq q
  exact List.forall_mem_append.mpr ⟨lw_r1, List.forall_mem_append.mpr ⟨lw_r2, lw_r3⟩⟩
/-- the streams that the claim lets the run draw from -/
abbrev lw_cs : List Choice := [Jvm.Choice.named "NaN.bits"]
theorem lw_bits : nanBits ∈ lw_cs := by first | decide | exact List.mem_cons_self | simp [lw_cs, nanBits]
end
section
/-! ===== BEGIN words of one list among another's, by their places ===== -/
theorem goodIn_r {big : List Cond} (ws : List Cond) (ps : List Nat) (hp : ws = ps.filterMap (fun i => big[i]?)) (h : ws.all goodWord = true) : GoodIn big ws := by
  intro w hw
  have h1 := List.all_eq_true.mp h w hw
  rw [hp] at hw
  obtain ⟨i, -, hi⟩ := List.mem_filterMap.mp hw
  have hm : w ∈ big := by first | exact List.mem_of_getElem? hi | exact List.getElem?_mem hi
  exact ⟨hm, good_of_word h1⟩
theorem goodIn_app {big a b : List Cond} (ha : GoodIn big a) (hb : GoodIn big b) : GoodIn big (a ++ b) := fun w h => (List.mem_append.mp h).elim (ha w) (hb w)
theorem goodIn_ca {big a b : List Cond} {c : Cond} (ha : GoodIn big (c :: a)) (hb : GoodIn big b) : GoodIn big (c :: (a ++ b)) := fun w h => (List.mem_cons.mp h).elim (fun e => ha w (List.mem_cons.mpr (Or.inl e))) (fun h => (List.mem_append.mp h).elim (fun h => ha w (List.mem_cons.mpr (Or.inr h))) (hb w))
theorem goodIn_sub {big ws : List Cond} (hm : ∀ w ∈ ws, w ∈ big) (h : ws.all goodWord = true) : GoodIn big ws := fun w hw => ⟨hm w hw, good_of_word (List.all_eq_true.mp h w hw)⟩
/-! ===== END ===== -/

/-! ===== BEGIN exceptions that leave a method, and their catching by the caller (launches without stack traces) ===== -/
section VXA
/-! The laws vx_back, vx_callV, vx_callS, vx_callSW, vx_throw0, vx_throwS follow proofs of the library, with one case more: JvmDerived/Free/Laws.lean (Back.of_free), Shelf42/LK1.lean (callV, callS), Shelf/KitTraced.lean (throwNew0V, throwNewS). -/
/-- where a method has thrown q: the class by its name, the cell, what was written, the world -/
def vx_T (XC : String → State → State → Prop) (st : State) (q : Addr) (t : State) (mc ms : Nat) (free : Addr → Prop) : Prop :=
  ∃ (E : String) (ce : Cell) (L : List Loc), XC E st t ∧ t.heap[q]? = some ce ∧ ce.vm = .none ∧ st.vm.findClass E = some ce.cls ∧ st.WarmedH t.vm ∧ st.sameButNew ({ t with vm := st.vm } : State) L mc ms ∧ ∀ z ∈ L, free z.base
def vx_Q (Qc : Array Value → State → Outcome → State → Prop) (XC : String → State → State → Prop) (mc ms : Nat) (free : Addr → Prop) : Array Value → State → Outcome → State → Prop := fun a st o t =>
  (Qc a st o t ∧ ∃ L, FrameEnd st o t L mc ms ∧ ∀ q ∈ L, free q.base) ∨ ∃ q, o = .threw q ∧ vx_T XC st q t mc ms free
/-- a callee that returns or throws -/
def vx_Met (l : Launch) (y : MethodName) (ws : List Cond) (rm : Room) (Pc : Array Value → State → Prop) (Qc : Array Value → State → Outcome → State → Prop) (XC : String → State → State → Prop) (mc ms : Nat) (free : Addr → Prop) : Prop :=
  MetFree l y (headSpec ws rm) Pc (fun _ _ _ _ _ => True) (vx_Q Qc XC mc ms free)
def vx_Post (XC : String → State → State → Prop) (mc ms : Nat) (free : Addr → Prop) : Pt → Array Value → Addr → Pt → Prop := fun A a q B =>
  ∃ (g : JFrame) (mk : MethodId) (t : State) (L : List Loc) (E : String) (ce : Cell), B.U.heap = t.heap ∧ B.U.vm = t.vm ∧ XC E (A.U.calling g mk a) t ∧ t.heap[q]? = some ce ∧ ce.vm = .none ∧ A.U.vm.findClass E = some ce.cls ∧ B.locs = A.locs ++ L ∧ (∀ z ∈ L, free z.base) ∧ B.cells = A.cells + mc ∧ B.slots = A.slots + ms
def vx_Back (l : Launch) (R : Room) (p : Program) (e : Env) (below : List Frame) (s : State) (sargs : Array Value) (y : MethodName) (len W9 : Nat)
    (Pre : Pt → Array Value → Prop) (Post : Pt → Array Value → Option Value → Pt → Prop) (PostX : Pt → Array Value → Addr → Pt → Prop) : Prop :=
  ∀ (m : MethodId) (meth : Method) (c : Code) (A : Pt) (g : JFrame) (ig : Instr) (mk : MethodId) (a : Array Value),
    Stand p l e R s m sargs below meth c A.U A.locs A.cells A.slots → g.method = m → g.locals.size = c.maxLocals → decode c.code g.pc = .ok (ig, len) →
    2 * g.monitorRoom + (g.stack.map fun v => v.category).sum ≤ W9 → A.U.methodNamed? y = some mk → Pre A a →
    (∃ (v : Option Value) (B : Pt), Stand p l e R s m sargs below meth c B.U B.locs B.cells B.slots ∧ Post A a v B ∧
      Steps p.tables e below (doInvoke e (A.U.setTop g) [] mk a).1 (B.U.setTop { g with pc := g.pc + len, stack := v.toList ++ g.stack })) ∨
    (∃ (q : Addr) (B : Pt), Stand p l e R s m sargs below meth c B.U B.locs B.cells B.slots ∧ PostX A a q B ∧
      Steps p.tables e below (doInvoke e (A.U.setTop g) [] mk a).1 ((B.U.setTop g).pushFrame (.throwing q)))
section Payer
variable {l : Launch} {R : Room} {p : Program} {e : Env} {below : List Frame} {s : State} {sargs : Array Value} {y : MethodName} {len W9 : Nat}
theorem vx_back {ws : List Cond} {rm : Room} {Pc : Array Value → State → Prop} {Qc : Array Value → State → Outcome → State → Prop} {XC : String → State → State → Prop} {mc ms : Nat} {free : Addr → Prop} {bytes : ByteArray} {maxL : Nat} {ret : Option FieldType}
    (hM : vx_Met l y ws rm Pc Qc XC mc ms free) (hblind : FrameBlind Pc) (hrc : rm.cells = mc) (hrs : rm.slots = ms)
    (hframes : rm.frames + 1 ≤ R.frames) (hlocals : W9 + (maxL + 11) + rm.locals ≤ R.locals)
    (hws : ∀ w ∈ ws, ∀ a' U, s.WarmedH U.vm → w.before a' U = true) (hcode : Cond.code y bytes maxL ret ∈ ws) (hinit : ∀ a' U, s.WarmedH U.vm → (Cond.initialized y.cls).before a' U = true) :
    vx_Back l R p e below s sargs y len W9 (PreOf R mc ms Pc) (PostOf Qc mc ms free) (vx_Post XC mc ms free) := by
  intro m meth c A g ig mk a X hg hsize hdg hW hn hp
  have h1 : (headSpec ws rm).pre.before a A.U = true := atoms_intro fun w hw => hws w hw _ _ X.warmed
  have h2 : (Cond.code y bytes maxL ret).before a A.U = true := hws _ hcode _ _ X.warmed
  have h3 : (Cond.initialized y.cls).before a A.U = true := hinit _ _ X.warmed
  have h4 : A.cells + (headSpec ws rm).room.cells ≤ R.cells := by rw [show (headSpec ws rm).room.cells = mc from hrc]; exact hp.1
  have h5 : A.slots + (headSpec ws rm).room.slots ≤ R.slots := by rw [show (headSpec ws rm).room.slots = ms from hrs]; exact hp.2.1
  have hPc : Pc a (A.U.calling g mk a) := hblind _ _ _ _ hp.2.2
  obtain ⟨U, Ls, c0, s0⟩ := A
  dsimp only [Pt.U, Pt.locs, Pt.cells, Pt.slots] at h1 h2 h3 h4 h5 X hn hPc ⊢
  obtain ⟨methY, cY, hmY, hcY, -, hlY, -, -, -, -⟩ := Cond.code_spec hn h2
  obtain ⟨kY, hkY, -⟩ := className_of_methodNamed hn
  have hinitY : kY.init = .initialized := Cond.initialized_spec (findClass_of_methodNamed hn) hkY h3
  have h : At U g.method c below := by rw [hg]; exact X.here
  have hlocals9 : W9 + (maxL + 11) + (headSpec ws rm).room.locals ≤ R.locals := hlocals
  have happ : (headSpec ws rm).appliesLoose y e.platform (U.calling g mk a) = true :=
    Spec.appliesLoose_calling (g := g) h hdg hn hkY hinitY
      (X.room_calling (g := g) (R' := (headSpec ws rm).room) hsize hmY hcY hframes (by rw [hlY]; omega) h4 h5) h1
  obtain ⟨mid, hmid⟩ := h.above
  have hfr : (U.setTop g).frames = (.java g :: mid) ++ below := by rw [State.frames_setTop' g h.top, hmid]; rfl
  obtain ⟨o, s₂, hsteps, -, hend, hq⟩ := Steps.callFree hM p X.admits X.cas X.clock (acts := []) hfr happ hPc trivial
  have hq' : vx_Q Qc XC mc ms free a (U.calling g mk a) o s₂ := hq
  rw [State.frames_setTop' g h.top] at hend
  obtain ⟨g₀, hg0⟩ := Option.isSome_iff_exists.mp h.top
  obtain ⟨r, hr⟩ := State.topJava?_eq_some.mp hg0
  have hr' : (({ U with heap := s₂.heap, slotsUsed := s₂.slotsUsed } : State).setVm s₂.vm).frames = .java g₀ :: r := hr
  rcases hq' with ⟨hqc, L, hfe, hL⟩ | ⟨q, rfl, E, ce, L, hx, hce, hcv, hcl, hW₂, hsm, hL⟩
  · obtain ⟨⟨v, rfl⟩, hW₂, e2, q2, q3, q4, q5, q6⟩ := id hfe
    have e3 : s₂ = ({ (U.calling g mk a).setFrames s₂.frames with heap := s₂.heap, slotsUsed := s₂.slotsUsed } : State).setVm s₂.vm := by
      have : s₂ = ({ s₂ with vm := (U.calling g mk a).vm } : State).setVm s₂.vm := rfl
      rw [e2] at this
      exact this
    obtain ⟨c₂, i₂, len₂, hc₂, hd₂, hf₂⟩ := hend
    have hW' : U.WarmedH s₂.vm := hW₂
    have hcc : c₂ = c := by
      have h1 : s₂.code? g.method = U.code? g.method := by
        rw [State.code?_eq, State.code?_eq, hW'.alike.method?]
      exact Option.some.inj (hc₂.symm.trans (h1.trans h.code))
    subst hcc
    have hlen : len₂ = len := by rw [hdg] at hd₂; cases hd₂; rfl
    subst hlen
    have hs₂ : s₂ = (({ U with heap := s₂.heap, slotsUsed := s₂.slotsUsed } : State).setVm s₂.vm).setTop { g with pc := g.pc + len₂, stack := v.toList ++ g.stack } := by
      refine e3.trans ?_
      rw [hf₂, State.calling_eq h.top, State.setFrames_setFrames, State.setTop_of_frames _ hr', hr]
      rfl
    have hsame : U.sameButNew ({ U with heap := s₂.heap, slotsUsed := s₂.slotsUsed } : State) L mc ms := by
      refine ⟨?_, q2, q3, q4, q5, q6⟩
      obtain ⟨t, ht, -⟩ := State.frames_cons hr
      show ({ U with heap := s₂.heap, slotsUsed := s₂.slotsUsed } : State) = { U.setFrames U.frames with heap := s₂.heap, slotsUsed := s₂.slotsUsed }
      rw [State.setFrames_self ht]
    subst hg
    refine Or.inl ⟨v, ⟨(({ U with heap := s₂.heap, slotsUsed := s₂.slotsUsed } : State).setVm s₂.vm), Ls ++ L, c0 + mc, s0 + ms⟩,
      ⟨X.admits, X.cas, X.clock, X.frames, X.room, X.hears, X.method, X.code, (X.here.setHeapUsed s₂.heap s₂.slotsUsed).setVm hW'.alike, X.tail, State.WarmedH.trans X.warmed hW', X.limits, X.bytes, X.same.trans (hsame.setVm s.vm)⟩,
      ⟨g, mk, s₂, L, rfl, rfl, hqc, rfl, hL, rfl, rfl⟩, ?_⟩
    show Steps p.tables e below _ ((({ U with heap := s₂.heap, slotsUsed := s₂.slotsUsed } : State).setVm s₂.vm).setTop { g with pc := g.pc + len₂, stack := v.toList ++ g.stack })
    rw [← hs₂]
    exact hsteps
  · obtain ⟨e2, q2, q3, q4, q5, q6⟩ := id hsm
    have e3 : s₂ = ({ (U.calling g mk a).setFrames s₂.frames with heap := s₂.heap, slotsUsed := s₂.slotsUsed } : State).setVm s₂.vm := by
      have : s₂ = ({ s₂ with vm := (U.calling g mk a).vm } : State).setVm s₂.vm := rfl
      rw [e2] at this
      exact this
    have hf₂ : s₂.frames = .throwing q :: .java g :: U.frames.tail := hend
    have hW' : U.WarmedH s₂.vm := hW₂
    have hs₂ : s₂ = ((({ U with heap := s₂.heap, slotsUsed := s₂.slotsUsed } : State).setVm s₂.vm).setTop g).pushFrame (.throwing q) := by
      refine e3.trans ?_
      rw [hf₂, State.calling_eq h.top, State.setFrames_setFrames, State.pushFrame, State.frames_setTop _ hr', State.setTop_of_frames _ hr', State.setFrames_setFrames, hr]
      rfl
    have hsame : U.sameButNew ({ U with heap := s₂.heap, slotsUsed := s₂.slotsUsed } : State) L mc ms := by
      refine ⟨?_, q2, q3, q4, q5, q6⟩
      obtain ⟨t, ht, -⟩ := State.frames_cons hr
      show ({ U with heap := s₂.heap, slotsUsed := s₂.slotsUsed } : State) = { U.setFrames U.frames with heap := s₂.heap, slotsUsed := s₂.slotsUsed }
      rw [State.setFrames_self ht]
    subst hg
    refine Or.inr ⟨q, ⟨(({ U with heap := s₂.heap, slotsUsed := s₂.slotsUsed } : State).setVm s₂.vm), Ls ++ L, c0 + mc, s0 + ms⟩,
      ⟨X.admits, X.cas, X.clock, X.frames, X.room, X.hears, X.method, X.code, (X.here.setHeapUsed s₂.heap s₂.slotsUsed).setVm hW'.alike, X.tail, State.WarmedH.trans X.warmed hW', X.limits, X.bytes, X.same.trans (hsame.setVm s.vm)⟩,
      ⟨g, mk, s₂, L, E, ce, rfl, rfl, hx, hce, hcv, hcl, rfl, hL, rfl, rfl⟩, ?_⟩
    show Steps p.tables e below _ (((({ U with heap := s₂.heap, slotsUsed := s₂.slotsUsed } : State).setVm s₂.vm).setTop g).pushFrame (.throwing q))
    rw [← hs₂]
    exact hsteps
end Payer
section Calls
variable {p : Program} {l : Launch} {e : Env} {R : Room} {s : State} {m : MethodId} {args : Array Value} {below : List Frame} {meth : Method} {c : Code} {T : State} {locs : List Loc} {cells slots : Nat}
theorem vx_callV (X : Stand p l e R s m args below meth c T locs cells slots) (hexec : p.tables.exec = Jvm.exec) {own C : String} {index : Nat} {y : MethodName} {bytes : ByteArray} {maxL : Nat} {ret : Option FieldType}
    (hown : s.vm.findClass own = some m.cls) (hlink : (Cond.methodLink own index y).before args s = true) (hinst : (Cond.instanceMethod y).before args s = true) (hsel : (Cond.selects C y y).before args s = true)
    (hcode : (Cond.code y bytes maxL ret).before args s = true) (hy : y.cls ≠ "java/lang/invoke/MethodHandle" ∧ y.cls ≠ "java/lang/invoke/VarHandle")
    {W9 : Nat} {Pre : Pt → Array Value → Prop} {Post : Pt → Array Value → Option Value → Pt → Prop} {PostX : Pt → Array Value → Addr → Pt → Prop} (hK : vx_Back l R p e below s args y 3 W9 Pre Post PostX)
    {b : Addr} {cellB : Cell} (hcell : T.heap[b]? = some cellB) (hobj : cellB.vm.isStatics = false) (hcls : s.vm.findClass C = some cellB.cls)
    {g : JFrame} (hg : g.method = m) (hsize : g.locals.size = c.maxLocals) {argsL rest : List Value} (hlen : ∀ sig, parseMethodDescriptor y.desc = some sig → argsL.length = sig.parameters.length)
    (hstack : g.stack = argsL.reverse ++ .ref b :: rest) (hW : 2 * g.monitorRoom + (rest.map fun v => v.category).sum ≤ W9) (hdg : decode c.code g.pc = .ok (.invokevirtual index, 3))
    (hpre : ∀ vm₁, s.WarmedH vm₁ → Pre ⟨T.setVm vm₁, locs, cells, slots⟩ (Value.ref b :: argsL).toArray) :
    (∃ (v : Option Value) (vm₁ : Vm) (B : Pt), s.WarmedH vm₁ ∧ Stand p l e R s m args below meth c B.U B.locs B.cells B.slots ∧ Post ⟨T.setVm vm₁, locs, cells, slots⟩ (Value.ref b :: argsL).toArray v B ∧
      ∀ target, Steps p.tables e below (B.U.setTop { g with pc := g.pc + 3, stack := v.toList ++ rest }) target → Steps p.tables e below (T.setTop g) target) ∨
    (∃ (q : Addr) (vm₁ : Vm) (B : Pt), s.WarmedH vm₁ ∧ Stand p l e R s m args below meth c B.U B.locs B.cells B.slots ∧ PostX ⟨T.setVm vm₁, locs, cells, slots⟩ (Value.ref b :: argsL).toArray q B ∧
      Steps p.tables e below (T.setTop g) ((B.U.setTop { g with stack := rest }).pushFrame (.throwing q))) := by
  obtain ⟨mk, methM, hnamed, hmethM, hstM, habM⟩ := Cond.instanceMethod_spec hinst
  obtain ⟨methM', cM, hmethM', -, -, -, -, -, -, hsigM⟩ := Cond.code_spec hnamed hcode
  cases hmethM.symm.trans hmethM'
  obtain ⟨c2, r2, m2, q1, q2, q3, q4, kP, hkP, hkPi⟩ := Cond.selects_spec hsel
  cases hcls.symm.trans q1
  cases (State.methodFound?_of_named hnamed hy).symm.trans q2
  cases hnamed.symm.trans q3
  have hselP : selectMethod e.platform s.vm cellB.cls mk = .method mk := by rw [Launch.admits_selectMethod X.admits]; exact q4
  obtain ⟨vm₁, X₁, hstep₁⟩ := X.invokevirtual hexec hown hlink hnamed hmethM hstM hkP hkPi hy (a := b) (cell := cellB) hcell
    (fun z h => by rw [h] at hobj; cases hobj) hselP hmethM habM hkP hkPi (g := g) hg (argsL := argsL) (rest := rest) (hlen _ hsigM) hstack hdg
  rcases hK m meth c ⟨T.setVm vm₁, locs, cells, slots⟩ { g with stack := rest } (.invokevirtual index) mk (Value.ref b :: argsL).toArray X₁ hg hsize hdg hW (X₁.named hnamed) (hpre vm₁ X₁.warmed) with ⟨v, B, X', hpost, hsteps⟩ | ⟨q, B, X', hpost, hsteps⟩
  · exact Or.inl ⟨v, vm₁, B, X₁.warmed, X', hpost, fun target h => hstep₁ _ fun acts => by rw [doInvoke_state]; exact hsteps.trans h⟩
  · exact Or.inr ⟨q, vm₁, B, X₁.warmed, X', hpost, hstep₁ _ fun acts => by rw [doInvoke_state]; exact hsteps⟩
theorem vx_callS (X : Stand p l e R s m args below meth c T locs cells slots) (hexec : p.tables.exec = Jvm.exec) {own : String} {index : Nat} {y : MethodName} {bytes : ByteArray} {maxL : Nat} {ret : Option FieldType}
    (hown : s.vm.findClass own = some m.cls) (hlink : (Cond.methodLink own index y).before args s = true) (hstat : (Cond.static y).before args s = true) (hinit : (Cond.initialized y.cls).before args s = true)
    (hcode : (Cond.code y bytes maxL ret).before args s = true) (hy : y.cls ≠ "java/lang/invoke/MethodHandle" ∧ y.cls ≠ "java/lang/invoke/VarHandle")
    {W9 : Nat} {Pre : Pt → Array Value → Prop} {Post : Pt → Array Value → Option Value → Pt → Prop} {PostX : Pt → Array Value → Addr → Pt → Prop} (hK : vx_Back l R p e below s args y 3 W9 Pre Post PostX)
    {g : JFrame} (hg : g.method = m) (hsize : g.locals.size = c.maxLocals) {argsL rest : List Value} (hlen : ∀ sig, parseMethodDescriptor y.desc = some sig → argsL.length = sig.parameters.length)
    (hstack : g.stack = argsL.reverse ++ rest) (hW : 2 * g.monitorRoom + (rest.map fun v => v.category).sum ≤ W9) (hdg : decode c.code g.pc = .ok (.invokestatic index, 3))
    (hpre : ∀ vm₁, s.WarmedH vm₁ → Pre ⟨T.setVm vm₁, locs, cells, slots⟩ argsL.toArray) :
    (∃ (v : Option Value) (vm₁ : Vm) (B : Pt), s.WarmedH vm₁ ∧ Stand p l e R s m args below meth c B.U B.locs B.cells B.slots ∧ Post ⟨T.setVm vm₁, locs, cells, slots⟩ argsL.toArray v B ∧
      ∀ target, Steps p.tables e below (B.U.setTop { g with pc := g.pc + 3, stack := v.toList ++ rest }) target → Steps p.tables e below (T.setTop g) target) ∨
    (∃ (q : Addr) (vm₁ : Vm) (B : Pt), s.WarmedH vm₁ ∧ Stand p l e R s m args below meth c B.U B.locs B.cells B.slots ∧ PostX ⟨T.setVm vm₁, locs, cells, slots⟩ argsL.toArray q B ∧
      Steps p.tables e below (T.setTop g) ((B.U.setTop { g with stack := rest }).pushFrame (.throwing q))) := by
  obtain ⟨mk, hnamed⟩ := Cond.code_named hcode
  obtain ⟨methM, cM, hmethM, -, -, -, -, -, -, hsigM⟩ := Cond.code_spec hnamed hcode
  have hstatic : methM.isStatic = true := Cond.static_spec hnamed hmethM hstat
  obtain ⟨kP, hkP, -⟩ := className_of_methodNamed hnamed
  have hinitP : kP.init = .initialized := Cond.initialized_spec (findClass_of_methodNamed hnamed) hkP hinit
  obtain ⟨vm₁, X₁, hstep₁⟩ := X.invokestatic hexec hown hlink hnamed hmethM hstatic hkP hinitP hy (g := g) hg (argsL := argsL) (rest := rest) (hlen _ hsigM) hstack hdg
  rcases hK m meth c ⟨T.setVm vm₁, locs, cells, slots⟩ { g with stack := rest } (.invokestatic index) mk argsL.toArray X₁ hg hsize hdg hW (X₁.named hnamed) (hpre vm₁ X₁.warmed) with ⟨v, B, X', hpost, hsteps⟩ | ⟨q, B, X', hpost, hsteps⟩
  · exact Or.inl ⟨v, vm₁, B, X₁.warmed, X', hpost, fun target h => hstep₁ _ fun acts => by rw [doInvoke_state]; exact hsteps.trans h⟩
  · exact Or.inr ⟨q, vm₁, B, X₁.warmed, X', hpost, hstep₁ _ fun acts => by rw [doInvoke_state]; exact hsteps⟩
end Calls
theorem vx_cls {s : State} {T : State} {vm₁ : Vm} {E : String} {k : ClassId} (hW : s.WarmedH vm₁) (h : (T.setVm vm₁).vm.findClass E = some k) : s.vm.findClass E = some k := by
  have h1 : vm₁.findClass E = some k := h
  rw [hW.alike.findClass] at h1
  exact h1
/-- the method's frame g, with q thrown over it -/
def vx_W (p : Program) (l : Launch) (e : Env) (R : Room) (s : State) (m : MethodId) (args : Array Value) (below : List Frame) (meth : Method) (c : Code) (H : Heap) (locs : List Loc) (cells slots : Nat) (Q : State → Prop) (g : JFrame) (q : Addr) : Prop :=
  ∀ T : State, T.heap = H → Stand p l e R s m args below meth c T locs cells slots → ∃ t, Steps p.tables e below ((T.setTop g).pushFrame (.throwing q)) t ∧ Q t
def vx_Run (p : Program) (l : Launch) (e : Env) (R : Room) (s : State) (m : MethodId) (args : Array Value) (below : List Frame) (meth : Method) (c : Code) (H : Heap) (locs : List Loc) (cells slots mc ms : Nat) (g : JFrame) (rest : List Value) (Qa : State → Outcome → State → Prop) (XC : String → State → State → Prop) (free : Addr → Prop) : Prop :=
  ∀ T : State, T.heap = H → Stand p l e R s m args below meth c T locs cells slots →
    (∃ (v : Option Value) (st₀ t T' : State) (L : List Loc), st₀.heap = H ∧ Stand p l e R s m args below meth c T' (locs ++ L) (cells + mc) (slots + ms) ∧ (∀ q ∈ L, free q.base) ∧ T'.heap = t.heap ∧ T'.vm = t.vm ∧ Qa st₀ (.returned v) t ∧
      Goes p e below T g T' { g with pc := g.pc + 3, stack := v.toList ++ rest }) ∨
    (∃ (q : Addr) (st₀ t T' : State) (L : List Loc) (E : String) (ce : Cell), st₀.heap = H ∧ Stand p l e R s m args below meth c T' (locs ++ L) (cells + mc) (slots + ms) ∧ (∀ z ∈ L, free z.base) ∧ T'.heap = t.heap ∧ T'.vm = t.vm ∧ XC E st₀ t ∧ t.heap[q]? = some ce ∧ ce.vm = .none ∧ s.vm.findClass E = some ce.cls ∧
      Steps p.tables e below (T.setTop g) ((T'.setTop { g with stack := rest }).pushFrame (.throwing q)))
def vx_X {S : Type} (px : S → Prop) (B : String → S → State → Prop) (A : Nat → Prop) : String → State → State → Prop := fun E st t => ∃ u : S, px u ∧ B E u t ∧ va_F A st t
section Runs
variable {p : Program} {l : Launch} {e : Env} {R : Room} {s : State} {m : MethodId} {args : Array Value} {below : List Frame} {meth : Method} {c : Code} {H : Heap} {locs : List Loc} {cells slots : Nat}
variable {y : MethodName} {bytes cc : ByteArray} {maxL nL mc ms n index : Nat} {ret : Option FieldType} {ws : List Cond} {rm : Room} {Pc : Array Value → State → Prop} {Qc : Array Value → State → Outcome → State → Prop} {XC : String → State → State → Prop} {free : Addr → Prop} {Ts : List Cond} {own C : String} {b : Addr} {As rest : List Value} {g : JFrame}
theorem vx_callBack (cb : CallB R s args own index y bytes maxL ret ws rm mc ms n) (hM : vx_Met l y ws rm Pc Qc XC mc ms free) (hbl : FrameBlind Pc) : vx_Back l R p e below s args y 3 8 (PreOf R mc ms Pc) (PostOf Qc mc ms free) (vx_Post XC mc ms free) := by
  obtain ⟨hrc, hrs, hfr, hlo, hws, hcw, -, hini, -⟩ := cb
  exact vx_back (bytes := bytes) (maxL := maxL) (ret := ret) hM hbl hrc hrs hfr hlo hws hcw (fun a' U hW => word_at hW (Or.inl (by first | rfl | simp [Cond.onTables, Cond.keeps, Cond.steady])) hini)
theorem vx_runV (S : CallFix p m c cc nL s args Ts own) (hM : vx_Met l y ws rm Pc Qc XC mc ms free) (cw : CallW R s args own C index y bytes maxL ret ws rm mc ms n) (hp : PreV s H C b Pc As)
    (hg : g.method = m) (hn : As.length = n) (hsize : g.locals.size = nL) (hstack : g.stack = As.reverse ++ .ref b :: rest) (hW : 2 * g.monitorRoom + (rest.map fun v => v.category).sum ≤ 8) (hdg : decode cc g.pc = .ok (.invokevirtual index, 3)) (hf : cells + mc ≤ R.cells ∧ slots + ms ≤ R.slots) :
    vx_Run p l e R s m args below meth c H locs cells slots mc ms g rest (Qc (Value.ref b :: As).toArray) XC free := by
  have hK : vx_Back l R p e below s args y 3 8 (PreOf R mc ms Pc) (PostOf Qc mc ms free) (vx_Post XC mc ms free) := vx_callBack cw.1 hM hp.1
  obtain ⟨⟨-, -, -, -, -, -, hcode, -, hy, hlen, hl⟩, hin, hse⟩ := cw
  obtain ⟨hx, hb, hml, ho, -⟩ := S
  obtain ⟨-, ⟨cellB, hcB, hoB, hclB⟩, hPc⟩ := hp
  intro T hT X
  rcases vx_callV X hx (C := C) (bytes := bytes) (maxL := maxL) (ret := ret) ho hl hin hse hcode hy hK (by rw [hT]; exact hcB) hoB hclB hg (hsize.trans hml.symm) (argsL := As) (rest := rest) (fun sig h => hn.trans (hlen sig h)) hstack hW (by rw [hb]; exact hdg)
    (fun vm₁ hW₁ => ⟨hf.1, hf.2, hPc (T.setVm vm₁) hT hW₁⟩) with ⟨v, vm₁, ⟨U', l2, c2, s2⟩, hW₁, X', ⟨g', mk, t, L, e1, e2, hq, h1, hL, h2, h3⟩, st⟩ | ⟨q, vm₁, ⟨U', l2, c2, s2⟩, hW₁, X', ⟨g', mk, t, L, E, ce, e1, e2, hq, hce, hcv, hcl, h1, hL, h2, h3⟩, st⟩
  · dsimp only [Pt.U, Pt.locs, Pt.cells, Pt.slots] at X' e1 e2 h1 h2 h3 st
    subst h1; subst h2; subst h3
    exact Or.inl ⟨v, (T.setVm vm₁).calling g' mk (Value.ref b :: As).toArray, t, U', L, hT, X', hL, e1, e2, hq, st⟩
  · dsimp only [Pt.U, Pt.locs, Pt.cells, Pt.slots] at X' e1 e2 h1 h2 h3 st hcl
    subst h1; subst h2; subst h3
    exact Or.inr ⟨q, (T.setVm vm₁).calling g' mk (Value.ref b :: As).toArray, t, U', L, E, ce, hT, X', hL, e1, e2, hq, hce, hcv, vx_cls hW₁ hcl, st⟩
theorem vx_runS (S : CallFix p m c cc nL s args Ts own) (hM : vx_Met l y ws rm Pc Qc XC mc ms free) (cw : CallB R s args own index y bytes maxL ret ws rm mc ms n ∧ (Cond.static y).before args s = true) (hp : PreS s H Pc As)
    (hg : g.method = m) (hn : As.length = n) (hsize : g.locals.size = nL) (hstack : g.stack = As.reverse ++ rest) (hW : 2 * g.monitorRoom + (rest.map fun v => v.category).sum ≤ 8) (hdg : decode cc g.pc = .ok (.invokestatic index, 3)) (hf : cells + mc ≤ R.cells ∧ slots + ms ≤ R.slots) :
    vx_Run p l e R s m args below meth c H locs cells slots mc ms g rest (Qc As.toArray) XC free := by
  have hK : vx_Back l R p e below s args y 3 8 (PreOf R mc ms Pc) (PostOf Qc mc ms free) (vx_Post XC mc ms free) := vx_callBack cw.1 hM hp.1
  obtain ⟨⟨-, -, -, -, -, -, hcode, hini, hy, hlen, hl⟩, hstt⟩ := cw
  obtain ⟨hx, hb, hml, ho, -⟩ := S
  intro T hT X
  rcases vx_callS X hx (bytes := bytes) (maxL := maxL) (ret := ret) ho hl hstt hini hcode hy hK hg (hsize.trans hml.symm) (argsL := As) (rest := rest) (fun sig h => hn.trans (hlen sig h)) hstack hW (by rw [hb]; exact hdg)
    (fun vm₁ hW₁ => ⟨hf.1, hf.2, hp.2 (T.setVm vm₁) hT hW₁⟩) with ⟨v, vm₁, ⟨U', l2, c2, s2⟩, hW₁, X', ⟨g', mk, t, L, e1, e2, hq, h1, hL, h2, h3⟩, st⟩ | ⟨q, vm₁, ⟨U', l2, c2, s2⟩, hW₁, X', ⟨g', mk, t, L, E, ce, e1, e2, hq, hce, hcv, hcl, h1, hL, h2, h3⟩, st⟩
  · dsimp only [Pt.U, Pt.locs, Pt.cells, Pt.slots] at X' e1 e2 h1 h2 h3 st
    subst h1; subst h2; subst h3
    exact Or.inl ⟨v, (T.setVm vm₁).calling g' mk As.toArray, t, U', L, hT, X', hL, e1, e2, hq, st⟩
  · dsimp only [Pt.U, Pt.locs, Pt.cells, Pt.slots] at X' e1 e2 h1 h2 h3 st hcl
    subst h1; subst h2; subst h3
    exact Or.inr ⟨q, (T.setVm vm₁).calling g' mk As.toArray, t, U', L, E, ce, hT, X', hL, e1, e2, hq, hce, hcv, vx_cls hW₁ hcl, st⟩
end Runs
section Rows
variable {p : Program} {l : Launch} {e : Env} {R : Room} {s : State} {m : MethodId} {args : Array Value} {below : List Frame} {meth : Method} {c : Code} {H : Heap} {locs : List Loc} {cells slots : Nat} {Q : State → Prop}
variable {mc ms : Nat} {free : Addr → Prop} {A0 A1 : Nat → Prop} {H0 : Heap} {a : Array Value} {pc : Nat} {ls : Array Slot} {st0 rest : List Value}
theorem vx_keep {st₀ t T' : State} {L : List Loc} (h0 : st₀.heap = H) (e1 : T'.heap = t.heap) (hS : va_S A0 H0 H locs) (hA : ∀ q, q < H.size → A1 q → A0 q) (hf : ∀ q, free q → A0 q) (hL : ∀ q ∈ L, free q.base) (hF : va_F A1 st₀ t) :
    H.size ≤ T'.heap.size ∧ (∀ q : Nat, q < H.size → ¬ A1 q → T'.heap[q]? = H[q]?) ∧ va_S A0 H0 T'.heap (locs ++ L) := by
  obtain ⟨hz, hk⟩ := hF
  rw [h0] at hz hk
  exact ⟨by rw [e1]; exact hz, fun q h1 h2 => by rw [e1]; exact hk q h1 h2,
    ⟨Nat.le_trans hS.1 (by rw [e1]; exact hz), fun q h1 h2 => by rw [e1, hk q (Nat.lt_of_lt_of_le h1 hS.1) (fun z => h2 (hA q (Nat.lt_of_lt_of_le h1 hS.1) z))]; exact hS.2.1 q h1 h2, fun q hq => by
      rcases List.mem_append.mp hq with h | h
      · exact hS.2.2 q h
      · exact hf _ (hL q h)⟩⟩
theorem vx_calli {S SX : Type} {post : Int32 → S → Prop} {px : SX → Prop} {B : S → State → Prop} {BX : String → SX → State → Prop} {AX : Nat → Prop} (hr : vx_Run p l e R s m args below meth c H locs cells slots mc ms (F0 m pc ls st0) rest (va_Qi post B A1 a) (vx_X px BX AX) free) (hS : va_S A0 H0 H locs) (hA : ∀ q, q < H.size → A1 q → A0 q) (hf : ∀ q, free q → A0 q) (hAX : ∀ q, q < H.size → AX q → A0 q)
    (kx : ∀ (E : String) (ce : Cell) (q9 : Addr) (u : SX) (t : State) (H1 : Heap) (locs1 : List Loc), t.heap = H1 → s.vm.Alike t.vm → px u → BX E u t → H.size ≤ H1.size → (∀ q : Nat, q < H.size → ¬ AX q → H1[q]? = H[q]?) → va_S A0 H0 H1 locs1 → H1[q9]? = some ce → ce.vm = .none → s.vm.findClass E = some ce.cls → vx_W p l e R s m args below meth c H1 locs1 (cells + mc) (slots + ms) Q (F0 m pc ls rest) q9)
    (kk : ∀ (r : Int32) (u : S) (t : State) (H1 : Heap) (locs1 : List Loc), t.heap = H1 → s.vm.Alike t.vm → post r u → B u t → H.size ≤ H1.size → (∀ q : Nat, q < H.size → ¬ A1 q → H1[q]? = H[q]?) → va_S A0 H0 H1 locs1 → W p l e R s m args below meth c H1 locs1 (cells + mc) (slots + ms) Q (F0 m (pc + 3) ls (.int r :: rest))) : W p l e R s m args below meth c H locs cells slots Q (F0 m pc ls st0) := by
  intro T hT X
  rcases hr T hT X with ⟨v, st₀, t, T', L, h0, X', hL, e1, e2, ⟨⟨r, u, hv, hp, hb⟩, hF⟩, st⟩ | ⟨q, st₀, t, T', L, E, ce, h0, X', hL, e1, e2, ⟨u, hp, hb, hF⟩, hce, hcv, hcl, st⟩
  · cases hv
    obtain ⟨k1, k2, k3⟩ := vx_keep h0 e1 hS hA hf hL hF
    obtain ⟨t2, a1, b1⟩ := kk r u t T'.heap (locs ++ L) e1.symm (by rw [← e2]; exact X'.warmed.alike) hp hb k1 k2 k3 T' rfl X'
    exact ⟨t2, st t2 a1, b1⟩
  · obtain ⟨k1, k2, k3⟩ := vx_keep h0 e1 hS hAX hf hL hF
    obtain ⟨t2, a1, b1⟩ := kx E ce q u t T'.heap (locs ++ L) e1.symm (by rw [← e2]; exact X'.warmed.alike) hp hb k1 k2 k3 (by rw [e1]; exact hce) hcv hcl T' rfl X'
    exact ⟨t2, st.trans a1, b1⟩
theorem vx_calll {S SX : Type} {post : Int64 → S → Prop} {px : SX → Prop} {B : S → State → Prop} {BX : String → SX → State → Prop} {AX : Nat → Prop} (hr : vx_Run p l e R s m args below meth c H locs cells slots mc ms (F0 m pc ls st0) rest (va_Ql post B A1 a) (vx_X px BX AX) free) (hS : va_S A0 H0 H locs) (hA : ∀ q, q < H.size → A1 q → A0 q) (hf : ∀ q, free q → A0 q) (hAX : ∀ q, q < H.size → AX q → A0 q)
    (kx : ∀ (E : String) (ce : Cell) (q9 : Addr) (u : SX) (t : State) (H1 : Heap) (locs1 : List Loc), t.heap = H1 → s.vm.Alike t.vm → px u → BX E u t → H.size ≤ H1.size → (∀ q : Nat, q < H.size → ¬ AX q → H1[q]? = H[q]?) → va_S A0 H0 H1 locs1 → H1[q9]? = some ce → ce.vm = .none → s.vm.findClass E = some ce.cls → vx_W p l e R s m args below meth c H1 locs1 (cells + mc) (slots + ms) Q (F0 m pc ls rest) q9)
    (kk : ∀ (r : Int64) (u : S) (t : State) (H1 : Heap) (locs1 : List Loc), t.heap = H1 → s.vm.Alike t.vm → post r u → B u t → H.size ≤ H1.size → (∀ q : Nat, q < H.size → ¬ A1 q → H1[q]? = H[q]?) → va_S A0 H0 H1 locs1 → W p l e R s m args below meth c H1 locs1 (cells + mc) (slots + ms) Q (F0 m (pc + 3) ls (.long r :: rest))) : W p l e R s m args below meth c H locs cells slots Q (F0 m pc ls st0) := by
  intro T hT X
  rcases hr T hT X with ⟨v, st₀, t, T', L, h0, X', hL, e1, e2, ⟨⟨r, u, hv, hp, hb⟩, hF⟩, st⟩ | ⟨q, st₀, t, T', L, E, ce, h0, X', hL, e1, e2, ⟨u, hp, hb, hF⟩, hce, hcv, hcl, st⟩
  · cases hv
    obtain ⟨k1, k2, k3⟩ := vx_keep h0 e1 hS hA hf hL hF
    obtain ⟨t2, a1, b1⟩ := kk r u t T'.heap (locs ++ L) e1.symm (by rw [← e2]; exact X'.warmed.alike) hp hb k1 k2 k3 T' rfl X'
    exact ⟨t2, st t2 a1, b1⟩
  · obtain ⟨k1, k2, k3⟩ := vx_keep h0 e1 hS hAX hf hL hF
    obtain ⟨t2, a1, b1⟩ := kx E ce q u t T'.heap (locs ++ L) e1.symm (by rw [← e2]; exact X'.warmed.alike) hp hb k1 k2 k3 (by rw [e1]; exact hce) hcv hcl T' rfl X'
    exact ⟨t2, st.trans a1, b1⟩
theorem vx_callf {S SX : Type} {post : UInt32 → S → Prop} {px : SX → Prop} {B : S → State → Prop} {BX : String → SX → State → Prop} {AX : Nat → Prop} (hr : vx_Run p l e R s m args below meth c H locs cells slots mc ms (F0 m pc ls st0) rest (va_Qf post B A1 a) (vx_X px BX AX) free) (hS : va_S A0 H0 H locs) (hA : ∀ q, q < H.size → A1 q → A0 q) (hf : ∀ q, free q → A0 q) (hAX : ∀ q, q < H.size → AX q → A0 q)
    (kx : ∀ (E : String) (ce : Cell) (q9 : Addr) (u : SX) (t : State) (H1 : Heap) (locs1 : List Loc), t.heap = H1 → s.vm.Alike t.vm → px u → BX E u t → H.size ≤ H1.size → (∀ q : Nat, q < H.size → ¬ AX q → H1[q]? = H[q]?) → va_S A0 H0 H1 locs1 → H1[q9]? = some ce → ce.vm = .none → s.vm.findClass E = some ce.cls → vx_W p l e R s m args below meth c H1 locs1 (cells + mc) (slots + ms) Q (F0 m pc ls rest) q9)
    (kk : ∀ (r : UInt32) (u : S) (t : State) (H1 : Heap) (locs1 : List Loc), t.heap = H1 → s.vm.Alike t.vm → post r u → B u t → H.size ≤ H1.size → (∀ q : Nat, q < H.size → ¬ A1 q → H1[q]? = H[q]?) → va_S A0 H0 H1 locs1 → W p l e R s m args below meth c H1 locs1 (cells + mc) (slots + ms) Q (F0 m (pc + 3) ls (.float r :: rest))) : W p l e R s m args below meth c H locs cells slots Q (F0 m pc ls st0) := by
  intro T hT X
  rcases hr T hT X with ⟨v, st₀, t, T', L, h0, X', hL, e1, e2, ⟨⟨r, u, hv, hp, hb⟩, hF⟩, st⟩ | ⟨q, st₀, t, T', L, E, ce, h0, X', hL, e1, e2, ⟨u, hp, hb, hF⟩, hce, hcv, hcl, st⟩
  · cases hv
    obtain ⟨k1, k2, k3⟩ := vx_keep h0 e1 hS hA hf hL hF
    obtain ⟨t2, a1, b1⟩ := kk r u t T'.heap (locs ++ L) e1.symm (by rw [← e2]; exact X'.warmed.alike) hp hb k1 k2 k3 T' rfl X'
    exact ⟨t2, st t2 a1, b1⟩
  · obtain ⟨k1, k2, k3⟩ := vx_keep h0 e1 hS hAX hf hL hF
    obtain ⟨t2, a1, b1⟩ := kx E ce q u t T'.heap (locs ++ L) e1.symm (by rw [← e2]; exact X'.warmed.alike) hp hb k1 k2 k3 (by rw [e1]; exact hce) hcv hcl T' rfl X'
    exact ⟨t2, st.trans a1, b1⟩
theorem vx_calld {S SX : Type} {post : UInt64 → S → Prop} {px : SX → Prop} {B : S → State → Prop} {BX : String → SX → State → Prop} {AX : Nat → Prop} (hr : vx_Run p l e R s m args below meth c H locs cells slots mc ms (F0 m pc ls st0) rest (va_Qd post B A1 a) (vx_X px BX AX) free) (hS : va_S A0 H0 H locs) (hA : ∀ q, q < H.size → A1 q → A0 q) (hf : ∀ q, free q → A0 q) (hAX : ∀ q, q < H.size → AX q → A0 q)
    (kx : ∀ (E : String) (ce : Cell) (q9 : Addr) (u : SX) (t : State) (H1 : Heap) (locs1 : List Loc), t.heap = H1 → s.vm.Alike t.vm → px u → BX E u t → H.size ≤ H1.size → (∀ q : Nat, q < H.size → ¬ AX q → H1[q]? = H[q]?) → va_S A0 H0 H1 locs1 → H1[q9]? = some ce → ce.vm = .none → s.vm.findClass E = some ce.cls → vx_W p l e R s m args below meth c H1 locs1 (cells + mc) (slots + ms) Q (F0 m pc ls rest) q9)
    (kk : ∀ (r : UInt64) (u : S) (t : State) (H1 : Heap) (locs1 : List Loc), t.heap = H1 → s.vm.Alike t.vm → post r u → B u t → H.size ≤ H1.size → (∀ q : Nat, q < H.size → ¬ A1 q → H1[q]? = H[q]?) → va_S A0 H0 H1 locs1 → W p l e R s m args below meth c H1 locs1 (cells + mc) (slots + ms) Q (F0 m (pc + 3) ls (.double r :: rest))) : W p l e R s m args below meth c H locs cells slots Q (F0 m pc ls st0) := by
  intro T hT X
  rcases hr T hT X with ⟨v, st₀, t, T', L, h0, X', hL, e1, e2, ⟨⟨r, u, hv, hp, hb⟩, hF⟩, st⟩ | ⟨q, st₀, t, T', L, E, ce, h0, X', hL, e1, e2, ⟨u, hp, hb, hF⟩, hce, hcv, hcl, st⟩
  · cases hv
    obtain ⟨k1, k2, k3⟩ := vx_keep h0 e1 hS hA hf hL hF
    obtain ⟨t2, a1, b1⟩ := kk r u t T'.heap (locs ++ L) e1.symm (by rw [← e2]; exact X'.warmed.alike) hp hb k1 k2 k3 T' rfl X'
    exact ⟨t2, st t2 a1, b1⟩
  · obtain ⟨k1, k2, k3⟩ := vx_keep h0 e1 hS hAX hf hL hF
    obtain ⟨t2, a1, b1⟩ := kx E ce q u t T'.heap (locs ++ L) e1.symm (by rw [← e2]; exact X'.warmed.alike) hp hb k1 k2 k3 (by rw [e1]; exact hce) hcv hcl T' rfl X'
    exact ⟨t2, st.trans a1, b1⟩
theorem vx_callv {S SX : Type} {post : S → Prop} {px : SX → Prop} {B : S → State → Prop} {BX : String → SX → State → Prop} {AX : Nat → Prop} (hr : vx_Run p l e R s m args below meth c H locs cells slots mc ms (F0 m pc ls st0) rest (va_Qv post B A1 a) (vx_X px BX AX) free) (hS : va_S A0 H0 H locs) (hA : ∀ q, q < H.size → A1 q → A0 q) (hf : ∀ q, free q → A0 q) (hAX : ∀ q, q < H.size → AX q → A0 q)
    (kx : ∀ (E : String) (ce : Cell) (q9 : Addr) (u : SX) (t : State) (H1 : Heap) (locs1 : List Loc), t.heap = H1 → s.vm.Alike t.vm → px u → BX E u t → H.size ≤ H1.size → (∀ q : Nat, q < H.size → ¬ AX q → H1[q]? = H[q]?) → va_S A0 H0 H1 locs1 → H1[q9]? = some ce → ce.vm = .none → s.vm.findClass E = some ce.cls → vx_W p l e R s m args below meth c H1 locs1 (cells + mc) (slots + ms) Q (F0 m pc ls rest) q9)
    (kk : ∀ (u : S) (t : State) (H1 : Heap) (locs1 : List Loc), t.heap = H1 → s.vm.Alike t.vm → post u → B u t → H.size ≤ H1.size → (∀ q : Nat, q < H.size → ¬ A1 q → H1[q]? = H[q]?) → va_S A0 H0 H1 locs1 → W p l e R s m args below meth c H1 locs1 (cells + mc) (slots + ms) Q (F0 m (pc + 3) ls (rest))) : W p l e R s m args below meth c H locs cells slots Q (F0 m pc ls st0) := by
  intro T hT X
  rcases hr T hT X with ⟨v, st₀, t, T', L, h0, X', hL, e1, e2, ⟨⟨u, hv, hp, hb⟩, hF⟩, st⟩ | ⟨q, st₀, t, T', L, E, ce, h0, X', hL, e1, e2, ⟨u, hp, hb, hF⟩, hce, hcv, hcl, st⟩
  · cases hv
    obtain ⟨k1, k2, k3⟩ := vx_keep h0 e1 hS hA hf hL hF
    obtain ⟨t2, a1, b1⟩ := kk u t T'.heap (locs ++ L) e1.symm (by rw [← e2]; exact X'.warmed.alike) hp hb k1 k2 k3 T' rfl X'
    exact ⟨t2, st t2 a1, b1⟩
  · obtain ⟨k1, k2, k3⟩ := vx_keep h0 e1 hS hAX hf hL hF
    obtain ⟨t2, a1, b1⟩ := kx E ce q u t T'.heap (locs ++ L) e1.symm (by rw [← e2]; exact X'.warmed.alike) hp hb k1 k2 k3 (by rw [e1]; exact hce) hcv hcl T' rfl X'
    exact ⟨t2, st.trans a1, b1⟩
/-- caught by the row x of this method's table; the rows ahead don't take it -/
theorem vx_catch {own name : String} {E : String} {ce : Cell} {q : Addr} (hown : s.vm.findClass own = some m.cls) (pre : List ExceptionTableEntry) (x : ExceptionTableEntry) (suf : List ExceptionTableEntry) (hsplit : c.exceptionTable.toList = pre ++ x :: suf)
    (hpass : ∀ z ∈ pre, covers z pc = false ∨ (z.catchType ≠ 0 ∧ ∃ nm : String, (Cond.classLink own z.catchType nm).before args s = true ∧ va_Nc E nm s)) (hx : covers x pc = true) (h0 : x.catchType ≠ 0)
    (hlink : (Cond.classLink own x.catchType name).before args s = true) (hcast : (Cond.castable E name).before args s = true) (hcell : H[q]? = some ce) (hv : ce.vm = .none) (hcl : s.vm.findClass E = some ce.cls)
    (kk : W p l e R s m args below meth c H locs cells slots Q (F0 m x.handlerPc ls [.ref q])) : vx_W p l e R s m args below meth c H locs cells slots Q (F0 m pc ls rest) q := by
  intro T hT X
  have hpl : e.platform.magicAccessors = ({} : Platform).magicAccessors := by rw [X.admits.platform]
  obtain ⟨c3, c4, hc3, hc4, hasg⟩ := Cond.castable_spec hcast
  cases Option.some.inj (hc3.symm.trans hcl)
  obtain ⟨c5, hc5, hcl5⟩ := Cond.classLink_spec hown hlink e.platform hpl
  cases Option.some.inj (hc4.symm.trans hc5)
  obtain ⟨vm', X', st⟩ := X.thenCaughtThrough q (g := F0 m pc ls rest) rfl (Steps.refl _) (by rw [hT]; exact hcell) (by rw [hv]; rfl) (by obtain ⟨k9, h9, -⟩ := Vm.findClass_spec hcl; exact ⟨k9, h9⟩) pre x suf hsplit
    (fun z hz => by
      rcases hpass z hz with h | ⟨hz0, nm, hl1, hn1⟩
      · exact Or.inl h
      · obtain ⟨c6, hc6, hcl6⟩ := Cond.classLink_spec hown hl1 e.platform hpl
        obtain ⟨a8, b8, h1, h2, h3⟩ := hn1
        cases Option.some.inj (h1.symm.trans hcl)
        cases Option.some.inj (h2.symm.trans hc6)
        exact Or.inr ⟨hz0, _, hcl6, h3⟩) hx (Or.inr ⟨h0, c4, hcl5, hasg⟩)
  obtain ⟨t, a1, b1⟩ := kk (T.setVm vm') hT X'
  exact ⟨t, st.trans a1, b1⟩
end Rows
section Ends
variable {p : Program} {l : Launch} {e : Env} {R : Room} {s : State} {m : MethodId} {args : Array Value} {below : List Frame} {meth : Method} {c : Code} {H : Heap} {locs : List Loc} {cells slots : Nat} {Q : State → Prop}
variable {mc ms : Nat} {free : Addr → Prop} {A0 A1 : Nat → Prop} {H0 : Heap} {a : Array Value} {ls : Array Slot} {st0 rest : List Value}
variable {Qc : Array Value → State → Outcome → State → Prop} {XC : String → State → State → Prop}
/-- what a body that may throw owes at its end -/
def vx_MQ (below : List Frame) (Qc : Array Value → State → Outcome → State → Prop) (XC : String → State → State → Prop) (a : Array Value) (s : State) (mc ms : Nat) (free : Addr → Prop) : State → Prop := fun t =>
  ∃ o, t.status = .running ∧ Ended t below o ∧ vx_Q Qc XC mc ms free a s o t
theorem vx_ret {g : JFrame} {mc ms : Nat} (k : W p l e R s m args below meth c H locs cells slots (MQ below Qc args s mc ms free) g) : W p l e R s m args below meth c H locs cells slots (vx_MQ below Qc XC args s mc ms free) g := by
  intro T hT X
  obtain ⟨t, a1, o, b1, b2, b3, b4⟩ := k T hT X
  exact ⟨t, a1, o, b1, b2, Or.inl ⟨b3, b4⟩⟩
/-- not caught here: it goes on to the caller -/
theorem vx_widen {g : JFrame} {q : Addr} {k n : Nat} (h1 : cells ≤ k) (h2 : slots ≤ n) (kk : vx_W p l e R s m args below meth c H locs k n Q g q) : vx_W p l e R s m args below meth c H locs cells slots Q g q := fun T hT X => kk T hT (stand_widen X h1 h2)
theorem vx_out {pc : Nat} {E : String} {ce : Cell} {q : Addr} {mc ms : Nat} (hout : ∀ x ∈ c.exceptionTable.toList, covers x pc = false) (hlocks : meth.locks = false) (hcell : H[q]? = some ce) (hv : ce.vm = .none) (hcl : s.vm.findClass E = some ce.cls)
    (hx : ∀ t : State, t.heap = H → s.vm.Alike t.vm → XC E s t) (hf : ∀ z ∈ locs, free z.base) (hc : cells ≤ mc) (hs : slots ≤ ms) :
    vx_W p l e R s m args below meth c H locs cells slots (vx_MQ below Qc XC args s mc ms free) (F0 m pc ls rest) q := by
  intro T hT X
  obtain ⟨st1, hrun, hend, hW, hsm⟩ := X.leaveThrown q (g := F0 m pc ls rest) rfl rfl rfl hout hlocks
  have hcell9 : (T.setFrames (.throwing q :: below)).heap[q]? = some ce := by
    show T.heap[q]? = some ce
    rw [hT]; exact hcell
  exact ⟨_, st1, .threw q, hrun, hend, Or.inr ⟨q, rfl, E, ce, locs, hx _ hT hW.alike, hcell9, hv, hcl, hW, hsm.mono hc hs, hf⟩⟩
theorem vx_frame {U : State} {k n : Nat} (h : s.sameButNew ({ U with vm := s.vm } : State) locs k n) : s.heap.size ≤ U.heap.size ∧ ∀ q : Nat, q < s.heap.size → (∀ z ∈ locs, z.base ≠ q) → U.heap[q]? = s.heap[q]? := by
  obtain ⟨-, h2, -, -, -, h6⟩ := h
  refine ⟨h2, fun q hq hz => ?_⟩
  obtain ⟨c9, e1, e2, e3, e4⟩ := h6 q _ (Array.getElem?_eq_getElem hq)
  have hs : c9.slots = (s.heap[q]).slots := Array.ext_getElem? fun i => e4 i fun hm => hz _ hm rfl
  have h9 : c9 = s.heap[q] := by
    rw [hs] at e2
    exact e2
  have e5 : U.heap[q]? = some c9 := e1
  rw [e5, h9, Array.getElem?_eq_getElem hq]
/-- the words of a throw but the four that speak of the heap -/
def vx_no (w : Cond) : Bool := decide (w ≠ .isRef (.static Bundle.tN "UNASSIGNED_STACK" Bundle.steD)) && decide (w ≠ .isRef (.static Bundle.tN "SUPPRESSED_SENTINEL" Bundle.listD)) && decide (w ≠ .laysStatic Bundle.tN "UNASSIGNED_STACK" Bundle.steD) && decide (w ≠ .laysStatic Bundle.tN "SUPPRESSED_SENTINEL" Bundle.listD)
def vx_at0 (own : String) (ic : Nat) (X : String) (names : List String) : List Cond := (Bundle.ownAtoms0 own ic X names).filter vx_no
def vx_atS (own : String) (ic : Nat) (X : String) (names : List String) : List Cond := (Bundle.ownAtoms own ic X names).filter vx_no
/-- a word that the tables alone decide, or a good one -/
def vx_ot (w : Cond) : Bool := w.onTables || goodWord w
theorem vx_ot_at {args a' : Array Value} {s U : State} {w : Cond} (hW : s.WarmedH U.vm) (hvm : s.vm = U.vm) (hg : vx_ot w = true) (h : w.before args s = true) : w.before a' U = true := by
  simp only [vx_ot, Bool.or_eq_true] at hg
  rcases hg with hg | hg
  · exact va_tabs hg hvm h
  · exact word_at hW (good_of_word hg) h
/-- a list's words: the good ones out of the method's own list, the others by premises of their own -/
theorem vx_hat {args : Array Value} {s : State} {L B : List Cond} (h1 : ∀ w ∈ L.filter goodWord, w.before args s = true) (h2 : ∀ w ∈ L.filter (fun w => !goodWord w), w ∈ B) (h3 : ∀ w ∈ B, w.before args s = true) : ∀ w ∈ L, w.before args s = true := by
  intro w hw
  by_cases g : goodWord w = true
  · exact h1 w (List.mem_filter.mpr ⟨hw, g⟩)
  · refine h3 w (h2 w (List.mem_filter.mpr ⟨hw, ?_⟩))
    show (!goodWord w) = true
    cases hgw : goodWord w
    · rfl
    · exact absurd hgw g
theorem vx_c {args : Array Value} {s : State} {w : Cond} {B : List Cond} (h : w.before args s = true) (t : ∀ w ∈ B, w.before args s = true) : ∀ w' ∈ w :: B, w'.before args s = true := fun w' h' => (List.mem_cons.mp h').elim (fun e => by rw [e]; exact h) (t w')
theorem vx_n {args : Array Value} {s : State} : ∀ w ∈ ([] : List Cond), w.before args s = true := fun _ h => nomatch h
theorem vx_own {args : Array Value} {s : State} {L : List Cond} (h1 : ∀ w ∈ L.filter vx_no, w.before args s = true)
    (hU : (Cond.isRef (.static Bundle.tN "UNASSIGNED_STACK" Bundle.steD)).before args s = true) (hN : (Cond.isRef (.static Bundle.tN "SUPPRESSED_SENTINEL" Bundle.listD)).before args s = true)
    (lU : (Cond.laysStatic Bundle.tN "UNASSIGNED_STACK" Bundle.steD).before args s = true) (lN : (Cond.laysStatic Bundle.tN "SUPPRESSED_SENTINEL" Bundle.listD).before args s = true) : ∀ w ∈ L, w.before args s = true := by
  intro w hw
  by_cases e1 : w = .isRef (.static Bundle.tN "UNASSIGNED_STACK" Bundle.steD)
  · rw [e1]; exact hU
  · by_cases e2 : w = .isRef (.static Bundle.tN "SUPPRESSED_SENTINEL" Bundle.listD)
    · rw [e2]; exact hN
    · by_cases e3 : w = .laysStatic Bundle.tN "UNASSIGNED_STACK" Bundle.steD
      · rw [e3]; exact lU
      · by_cases e4 : w = .laysStatic Bundle.tN "SUPPRESSED_SENTINEL" Bundle.listD
        · rw [e4]; exact lN
        · exact h1 w (List.mem_filter.mpr ⟨hw, by unfold vx_no; rw [decide_eq_true e1, decide_eq_true e2, decide_eq_true e3, decide_eq_true e4]; rfl⟩)
/-- where a static field lies, its class's statics cell in H -/
def vx_L (C n d : String) (A : Nat → Prop) (U : State) (H : Heap) : Prop := ∃ (c : ClassId) (k : Class) (i : Nat) (f : Field) (a : Nat) (cell : Cell), U.vm.findClass C = some c ∧ U.fieldFound? C n d = some (c, k, i, f) ∧ f.isStatic = true ∧ k.statics = some a ∧ H[a]? = some cell ∧ cell.vm.isStatics = true ∧ cell.cls = c ∧ f.slot < cell.slots.size ∧ k.staticTypes[f.slot]? = some f.type ∧ ¬ A a
theorem vx_L.moved {C n d : String} {A : Nat → Prop} {u U : State} {H : Heap} (hvm : u.vm.Alike U.vm) (h : vx_L C n d A u H) : vx_L C n d A U H := by
  obtain ⟨c, k, i, f, a, cell, h1, h2, h3, h4, h5, h6, h7, h8, h9, h10⟩ := h
  obtain ⟨k', hi', he⟩ := State.fieldFound?_setVm hvm h2
  exact ⟨c, k', i, f, a, cell, by rw [hvm.findClass]; exact h1, hi', h3, by rw [he]; exact h4, h5, h6, h7, h8, by rw [he]; exact h9, h10⟩
theorem vx_L.kept {C n d : String} {A : Nat → Prop} {U : State} {H H1 : Heap} (h : vx_L C n d A U H) (hq : ∀ a : Nat, a < H.size → ¬ A a → H1[a]? = H[a]?) : vx_L C n d A U H1 := by
  obtain ⟨c, k, i, f, a, cell, h1, h2, h3, h4, h5, h6, h7, h8, h9, h10⟩ := h
  exact ⟨c, k, i, f, a, cell, h1, h2, h3, h4, by rw [hq a (Array.getElem?_eq_some_iff.mp h5).1 h10]; exact h5, h6, h7, h8, h9, h10⟩
theorem vx_L.narrow {C n d : String} {A B : Nat → Prop} {U : State} {H : Heap} (h : vx_L C n d A U H) (hAB : ∀ q, B q → A q) : vx_L C n d B U H := by
  obtain ⟨c, k, i, f, a, cell, h1, h2, h3, h4, h5, h6, h7, h8, h9, h10⟩ := h
  exact ⟨c, k, i, f, a, cell, h1, h2, h3, h4, h5, h6, h7, h8, h9, fun z => h10 (hAB _ z)⟩
theorem vx_L.word {C n d : String} {A : Nat → Prop} {s : State} {args : Array Value} (h : vx_L C n d A s s.heap) : (Cond.laysStatic C n d).before args s = true := by
  obtain ⟨c, k, i, f, a, cell, h1, h2, h3, h4, h5, h6, h7, h8, h9, -⟩ := h
  show (Cond.laysStatic C n d).holds args s none s [] = true
  exact Cond.laysStatic_of h1 h2 h3 h4 h5 h6 h7 h8 h9
/-- .. and what it holds: null or some reference -/
def vx_Zq (C n d : String) (A : Nat → Prop) (U : State) (H : Heap) : Prop := va_Zq C n d A U H ∧ vx_L C n d A U H
theorem vx_Zq.moved {C n d : String} {A : Nat → Prop} {u U : State} {H : Heap} (hvm : u.vm.Alike U.vm) (h : vx_Zq C n d A u H) : vx_Zq C n d A U H := ⟨va_Zq.moved hvm h.1, vx_L.moved hvm h.2⟩
theorem vx_Zq.kept {C n d : String} {A : Nat → Prop} {U : State} {H H1 : Heap} (h : vx_Zq C n d A U H) (hq : ∀ a : Nat, a < H.size → ¬ A a → H1[a]? = H[a]?) : vx_Zq C n d A U H1 := ⟨va_Zq.kept h.1 hq, vx_L.kept h.2 hq⟩
theorem vx_Zq.narrow {C n d : String} {A B : Nat → Prop} {U : State} {H : Heap} (h : vx_Zq C n d A U H) (hAB : ∀ q, B q → A q) : vx_Zq C n d B U H := ⟨va_Zq.narrow h.1 hAB, vx_L.narrow h.2 hAB⟩
theorem vx_Zqof {args : Array Value} {s : State} {C n d : String} {A : Nat → Prop} (hl : (Cond.laysStatic C n d).before args s = true) (hini : (Cond.initialized C).before args s = true) (h : (Cond.isRef (.static C n d)).before args s = true) (hA : ∀ a : Nat, a < s.heap.size → ¬ A a) : vx_Zq C n d A s s.heap := by
  refine ⟨va_Zqof hl hini h hA, ?_⟩
  obtain ⟨c, k, i, f, a, cell, h1, h2, h3, h4, h5, h6, h7, h8, h9⟩ := Cond.laysStatic_spec hl
  exact ⟨c, k, i, f, a, cell, h1, h2, h3, h4, h5, h6, h7, h8, h9, hA a (Array.getElem?_eq_some_iff.mp h5).1⟩
theorem vx_isRef {C n d : String} {v : Value} {A : Nat → Prop} {s : State} {args : Array Value} (h : va_Z C n d v A s s.heap) (hv : v.isRef = true) : (Cond.isRef (.static C n d)).before args s = true := by
  obtain ⟨cf, kf, fi, f, a, cell, h1, h2, h3, h4, h5, h6, h7, -⟩ := h
  have he : (Term.static C n d).eval args s none [] s = some v := by
    simp [Term.eval, State.fieldNamed?, h1, h2, h4, h5, h6, h7]
  simp only [Cond.before, Cond.holds, Cond.value, he]
  cases v <;> simp_all [Value.isRef]
theorem vx_isRefq {C n d : String} {A : Nat → Prop} {s : State} {args : Array Value} (h : va_Zq C n d A s s.heap) : (Cond.isRef (.static C n d)).before args s = true := by
  rcases h with h | ⟨t, h⟩
  · exact vx_isRef h rfl
  · exact vx_isRef h rfl
/-- the same frame, seen from here: as if the method were called anew in this heap -/
theorem vx_rebase {T : State} (X : Stand p l e R s m args below meth c T locs cells slots) {R' : Room} (hf : R'.frames ≤ R.frames) (hl : R'.locals ≤ R.locals) (hc : cells + R'.cells ≤ R.cells) (hs : slots + R'.slots ≤ R.slots) :
    Stand p l e R' ((T.setVm s.vm).setFrames (.invoking m args :: below)) m args below meth c T [] 0 0 := by
  have htop : (T.setVm s.vm).topJava?.isSome := X.here.top
  have hF : ((T.setVm s.vm).setFrames (.invoking m args :: below)).frames = .invoking m args :: below := State.frames_setFrames _ (State.cur_lt_of_top htop)
  obtain ⟨g₀, hg0⟩ := Option.isSome_iff_exists.mp htop
  obtain ⟨r, hr⟩ := State.topJava?_eq_some.mp hg0
  have hl9 : e.platform.stackLimits (T.setVm s.vm).me = e.platform.stackLimits s.me := X.limits
  have hb9 : (T.setVm s.vm).me.stackBytes = s.me.stackBytes := X.bytes
  refine ⟨X.admits, X.cas, X.clock, hF, ?_, X.hears, X.method, X.code, X.here, X.tail, X.warmed, ?_, ?_, ?_⟩
  · have h := X.room
    have hU : ((T.setVm s.vm).setFrames (.invoking m args :: below)).localsInUse = s.localsInUse := by
      rw [State.localsInUse_invoking hF (meth := meth) (c := c) X.method X.code, State.localsInUse_invoking X.frames X.method X.code]
    simp only [State.hasRoom, Bool.and_eq_true, decide_eq_true_eq] at h ⊢
    obtain ⟨⟨⟨⟨h1, h2, h3, h4, h5, h6⟩, h7⟩, h8⟩, h9⟩ := h
    rw [X.frames, List.length_cons] at h2 h3
    have q1 := X.heapSize
    have q2 := X.used
    simp only [hF, hU, List.length_cons, State.stackLimits_setFrames, State.stackBytes_setFrames, hl9, hb9]
    refine ⟨⟨⟨⟨by omega, by omega, by omega, by omega, by omega, h6⟩, ?_⟩, ?_⟩, X.book⟩
    · show T.heap.size + R'.cells ≤ e.platform.maxCells
      omega
    · show T.slotsUsed + R'.slots ≤ e.platform.maxSlots
      omega
  · rw [State.stackLimits_setFrames]; rfl
  · rw [State.stackBytes_setFrames]; rfl
  · refine ⟨?_, Nat.le_refl _, Nat.le_refl _, ?_, ?_, fun a c9 h9 => ⟨c9, h9, rfl, rfl, fun _ _ => rfl⟩⟩
    · obtain ⟨t, ht, -⟩ := State.frames_cons hr
      show T.setVm s.vm = { ((T.setVm s.vm).setFrames (.invoking m args :: below)).setFrames (T.setVm s.vm).frames with heap := T.heap, slotsUsed := T.slotsUsed }
      rw [State.setFrames_setFrames, State.setFrames_self ht]
      rfl
    · show T.slotsUsed = T.slotsUsed + ((T.heap.toList.drop T.heap.size).map (·.slots.size)).sum
      rw [List.drop_eq_nil_of_le (Nat.le_of_eq Array.length_toList)]
      rfl
    · show ((T.heap.toList.drop T.heap.size).map (·.slots.size)).sum ≤ 0
      rw [List.drop_eq_nil_of_le (Nat.le_of_eq Array.length_toList)]
      exact Nat.le_refl _
/-- 'throw new E()': new; dup; invokespecial; athrow -/
theorem vx_throw0 {cc : ByteArray} {pc : Nat} (hexec : p.tables.exec = Jvm.exec) (hb : c.code = cc) (hl : l.stackTraces = false) {own cls : String} {names : List String} {ik ic mc ms : Nat} {A : Nat → Prop}
    (hown : s.vm.findClass own = some m.cls) (hcls : Bundle.fit cls = true) (hnames : ∀ n ∈ names, Bundle.fit n = true)
    (hk : (Cond.classLink own ik cls).before args s = true) (hini : (Cond.initialized cls).before args s = true) (hat : ∀ w ∈ vx_at0 own ic cls names, w.before args s = true)
    (hgood : ∀ w ∈ Cond.classLink own ik cls :: Cond.initialized cls :: vx_at0 own ic cls names, vx_ot w = true)
    (hU : vx_Zq Bundle.tN "UNASSIGNED_STACK" Bundle.steD A s s.heap) (hN : vx_Zq Bundle.tN "SUPPRESSED_SENTINEL" Bundle.listD A s s.heap) (hS : va_S A s.heap H locs) (hsize : ls.size = c.maxLocals)
    (d0 : decode cc pc = .ok (.new ik, 3)) (d3 : decode cc (pc + 3) = .ok (.dup, 1)) (d4 : decode cc (pc + 4) = .ok (.invokespecial ic, 3)) (d7 : decode cc (pc + 7) = .ok (.athrow, 1))
    (hout : ∀ x ∈ c.exceptionTable.toList, covers x (pc + 7) = false)
    (hRframes : names.length + 3 < R.frames) (hRlocals : (rest.map fun v => v.category).sum + (13 * (names.length + 1) + 42) ≤ R.locals) (hRcells : cells + 1 ≤ R.cells) (hRslots : slots + 6 ≤ R.slots) (hlocks : meth.locks = false)
    (hx : ∀ t : State, s.vm.Alike t.vm → H.size ≤ t.heap.size → (∀ q : Nat, q < H.size → t.heap[q]? = H[q]?) → XC cls s t)
    (hf : ∀ z ∈ locs, free z.base) (hc : cells + 1 ≤ mc) (hs : slots + 6 ≤ ms) :
    W p l e R s m args below meth c H locs cells slots (vx_MQ below Qc XC args s mc ms free) (F0 m pc ls rest) := by
  intro T hT X
  have htr : e.platform.stackTraces = false := (show e.platform.stackTraces = l.stackTraces by rw [X.admits.platform]).trans hl
  have Y := vx_rebase X (R' := { frames := R.frames, locals := R.locals, cells := 1, slots := 6 }) (Nat.le_refl _) (Nat.le_refl _) hRcells hRslots
  obtain ⟨s', hA⟩ : ∃ z, z = (T.setVm s.vm).setFrames (.invoking m args :: below) := ⟨_, rfl⟩
  rw [← hA] at Y
  have hvm : s'.vm = s.vm := by rw [hA]; rfl
  have hhp : s'.heap = H := by rw [hA]; exact hT
  have hW0 : s.WarmedH s'.vm := by rw [hvm]; exact State.WarmedH.refl s
  have hat' : ∀ w ∈ vx_at0 own ic cls names, w.before args s' = true := fun w hw => vx_ot_at hW0 hvm.symm (hgood w (List.mem_cons_of_mem _ (List.mem_cons_of_mem _ hw))) (hat w hw)
  have hk' : (Cond.classLink own ik cls).before args s' = true := vx_ot_at hW0 hvm.symm (hgood _ List.mem_cons_self) hk
  have hini' : (Cond.initialized cls).before args s' = true := vx_ot_at hW0 hvm.symm (hgood _ (List.mem_cons_of_mem _ List.mem_cons_self)) hini
  have hU' : vx_Zq Bundle.tN "UNASSIGNED_STACK" Bundle.steD A s' s'.heap := by rw [hhp]; exact vx_Zq.moved hW0.alike (hU.kept hS.2.1)
  have hN' : vx_Zq Bundle.tN "SUPPRESSED_SENTINEL" Bundle.listD A s' s'.heap := by rw [hhp]; exact vx_Zq.moved hW0.alike (hN.kept hS.2.1)
  have h : ∀ w ∈ Bundle.ownAtoms0 own ic cls names, w.before args s' = true := vx_own hat' (vx_isRefq hU'.1) (vx_isRefq hN'.1) hU'.2.word hN'.2.word
  have hown' : s'.vm.findClass own = some m.cls := by rw [hvm]; exact hown
  have hins : (Cond.instantiable cls 6).before args s' = true := h _ (by simp [Bundle.ownAtoms0])
  obtain ⟨vm₁, cX, kX, hfX, hkX, -, -, X₁, st1⟩ := Y.newCold hexec (own := own) (C := cls) (index := ik) (n := 6) hown' hk' hins hini'
    (g := F0 m pc ls rest) rfl (by rw [hb]; exact d0) (Nat.le_refl _) (Nat.le_refl _)
  generalize hT1 : (T.setVm vm₁).pushCell { cls := cX, slots := kX.instanceTypes.map defaultValue, vm := .none } = T1 at X₁ st1
  have hcat : (Value.ref T.heap.size).category = 1 := rfl
  have hcellA : T1.heap[T.heap.size]? = some (freshCell cX kX) := by rw [← hT1]; exact State.heap_pushCell_size _ _
  have d3' : decode c.code (pc + 3) = .ok (.dup, 1) := by rw [hb]; exact d3
  obtain ⟨U, hsteps, hrun, hend, hW, hsame, ce, hce, hO⟩ := X₁.ctorThrow0 hexec htr (own := own) (cls := cls) (names := names) (ic := ic) hown' hcls hnames h (fun x hx => nomatch hx) hfX hkX hcellA (by rw [hhp, hT]; exact Nat.le_refl _)
    (g := { method := m, pc := pc + 4, locals := ls, stack := .ref T.heap.size :: .ref T.heap.size :: rest, locked := none }) rfl hsize rfl rfl (rest := rest) rfl
    (by rw [hb]; exact d4) (by rw [hb]; exact d7) hout hRframes (by simp only [List.map_cons, List.sum_cons, hcat]; omega) hlocks
  obtain ⟨f1, f2⟩ := vx_frame hsame
  rw [hhp] at f1 f2
  have hWs : s.WarmedH U.vm := State.WarmedH.trans hW0 hW
  have hcl : s.vm.findClass cls = some ce.cls := by
    have h9 := hO.cls
    rw [hvm] at h9
    exact h9
  have hall : s.sameButNew ({ U with vm := s.vm } : State) locs mc ms := by
    subst hA
    obtain ⟨e1, e2⟩ := hsame
    rw [State.setFrames_setFrames] at e1
    have h2 : (T.setVm s.vm).sameButNew ({ U with vm := s.vm } : State) [] (0 + 1) (0 + 6) := ⟨e1, e2⟩
    have h3 := X.same.trans h2
    rw [List.append_nil] at h3
    exact h3.mono hc hs
  refine ⟨U, ?_, .threw T.heap.size, hrun, hend, Or.inr ⟨T.heap.size, rfl, cls, ce, locs, hx U hWs.alike f1 (fun q hq => f2 q hq (fun z hz => nomatch hz)), hce, hO.vm, hcl, hWs, hall, hf⟩⟩
  refine st1 _ ?_
  show Steps p.tables e below (T1.setTop { method := m, pc := pc + 3, locals := ls, stack := .ref T.heap.size :: rest, locked := none }) _
  jvm_step X₁.here [X₁.here.top, hexec, d3', Value.category]
  exact hsteps
/-- 'throw new E("text")': new; dup; ldc; invokespecial; athrow -/
theorem vx_throwS {cc : ByteArray} {pc : Nat} (hexec : p.tables.exec = Jvm.exec) (hb : c.code = cc) (hl : l.stackTraces = false) {own cls text : String} {names : List String} {ik is ic mc ms sa : Nat} {A : Nat → Prop}
    (hown : s.vm.findClass own = some m.cls) (hcls : Bundle.fit cls = true) (hnames : ∀ n ∈ names, Bundle.fit n = true)
    (hk : (Cond.classLink own ik cls).before args s = true) (hini : (Cond.initialized cls).before args s = true) (hstr : vk_R own is text sa s) (hat : ∀ w ∈ vx_atS own ic cls names, w.before args s = true)
    (hgood : ∀ w ∈ Cond.classLink own ik cls :: Cond.initialized cls :: vx_atS own ic cls names, vx_ot w = true)
    (hU : vx_Zq Bundle.tN "UNASSIGNED_STACK" Bundle.steD A s s.heap) (hN : vx_Zq Bundle.tN "SUPPRESSED_SENTINEL" Bundle.listD A s s.heap) (hS : va_S A s.heap H locs) (hsize : ls.size = c.maxLocals)
    (d0 : decode cc pc = .ok (.new ik, 3)) (d3 : decode cc (pc + 3) = .ok (.dup, 1)) (d4 : decode cc (pc + 4) = .ok (.ldc is, 2)) (d6 : decode cc (pc + 6) = .ok (.invokespecial ic, 3)) (d9 : decode cc (pc + 9) = .ok (.athrow, 1))
    (hout : ∀ x ∈ c.exceptionTable.toList, covers x (pc + 9) = false)
    (hRframes : names.length + 3 < R.frames) (hRlocals : (rest.map fun v => v.category).sum + (13 * (names.length + 1) + 43) ≤ R.locals) (hRcells : cells + 1 ≤ R.cells) (hRslots : slots + 6 ≤ R.slots) (hlocks : meth.locks = false)
    (hx : ∀ t : State, s.vm.Alike t.vm → H.size ≤ t.heap.size → (∀ q : Nat, q < H.size → t.heap[q]? = H[q]?) → XC cls s t)
    (hf : ∀ z ∈ locs, free z.base) (hc : cells + 1 ≤ mc) (hs : slots + 6 ≤ ms) :
    W p l e R s m args below meth c H locs cells slots (vx_MQ below Qc XC args s mc ms free) (F0 m pc ls rest) := by
  intro T hT X
  have htr : e.platform.stackTraces = false := (show e.platform.stackTraces = l.stackTraces by rw [X.admits.platform]).trans hl
  have Y := vx_rebase X (R' := { frames := R.frames, locals := R.locals, cells := 1, slots := 6 }) (Nat.le_refl _) (Nat.le_refl _) hRcells hRslots
  obtain ⟨s', hA⟩ : ∃ z, z = (T.setVm s.vm).setFrames (.invoking m args :: below) := ⟨_, rfl⟩
  rw [← hA] at Y
  have hvm : s'.vm = s.vm := by rw [hA]; rfl
  have hhp : s'.heap = H := by rw [hA]; exact hT
  have hW0 : s.WarmedH s'.vm := by rw [hvm]; exact State.WarmedH.refl s
  have hat' : ∀ w ∈ vx_atS own ic cls names, w.before args s' = true := fun w hw => vx_ot_at hW0 hvm.symm (hgood w (List.mem_cons_of_mem _ (List.mem_cons_of_mem _ hw))) (hat w hw)
  have hk' : (Cond.classLink own ik cls).before args s' = true := vx_ot_at hW0 hvm.symm (hgood _ List.mem_cons_self) hk
  have hini' : (Cond.initialized cls).before args s' = true := vx_ot_at hW0 hvm.symm (hgood _ (List.mem_cons_of_mem _ List.mem_cons_self)) hini
  have hU' : vx_Zq Bundle.tN "UNASSIGNED_STACK" Bundle.steD A s' s'.heap := by rw [hhp]; exact vx_Zq.moved hW0.alike (hU.kept hS.2.1)
  have hN' : vx_Zq Bundle.tN "SUPPRESSED_SENTINEL" Bundle.listD A s' s'.heap := by rw [hhp]; exact vx_Zq.moved hW0.alike (hN.kept hS.2.1)
  have h : ∀ w ∈ Bundle.ownAtoms own ic cls names, w.before args s' = true := vx_own hat' (vx_isRefq hU'.1) (vx_isRefq hN'.1) hU'.2.word hN'.2.word
  have hown' : s'.vm.findClass own = some m.cls := by rw [hvm]; exact hown
  have hins : (Cond.instantiable cls 6).before args s' = true := h _ (by simp [Bundle.ownAtoms])
  obtain ⟨vm₁, cX, kX, hfX, hkX, -, -, X₁, st1⟩ := Y.newCold hexec (own := own) (C := cls) (index := ik) (n := 6) hown' hk' hins hini'
    (g := F0 m pc ls rest) rfl (by rw [hb]; exact d0) (Nat.le_refl _) (Nat.le_refl _)
  generalize hT1 : (T.setVm vm₁).pushCell { cls := cX, slots := kX.instanceTypes.map defaultValue, vm := .none } = T1 at X₁ st1
  have hcat : (Value.ref T.heap.size).category = 1 := rfl
  have hcellA : T1.heap[T.heap.size]? = some (freshCell cX kX) := by rw [← hT1]; exact State.heap_pushCell_size _ _
  have d3' : decode c.code (pc + 3) = .ok (.dup, 1) := by rw [hb]; exact d3
  have d4' : decode c.code (pc + 4) = .ok (.ldc is, 2) := by rw [hb]; exact d4
  have hstr' : vk_R own is text sa s' := vk_R.warm hW0 hstr
  obtain ⟨U, hsteps, hrun, hend, hW, hsame, ce, hce, hO⟩ := X₁.ctorThrowS hexec htr (own := own) (cls := cls) (names := names) (ic := ic) hown' hcls hnames h (fun x hx => nomatch hx) hfX hkX hcellA (by rw [hhp, hT]; exact Nat.le_refl _) (msg := .ref sa) rfl
    (g := { method := m, pc := pc + 6, locals := ls, stack := .ref sa :: .ref T.heap.size :: .ref T.heap.size :: rest, locked := none }) rfl hsize rfl rfl (rest := rest) rfl
    (by rw [hb]; exact d6) (by rw [hb]; exact d9) hout hRframes (by simp only [List.map_cons, List.sum_cons, hcat]; omega) hlocks
  obtain ⟨f1, f2⟩ := vx_frame hsame
  rw [hhp] at f1 f2
  have hWs : s.WarmedH U.vm := State.WarmedH.trans hW0 hW
  have hcl : s.vm.findClass cls = some ce.cls := by
    have h9 := hO.cls
    rw [hvm] at h9
    exact h9
  have hall : s.sameButNew ({ U with vm := s.vm } : State) locs mc ms := by
    subst hA
    obtain ⟨e1, e2⟩ := hsame
    rw [State.setFrames_setFrames] at e1
    have h2 : (T.setVm s.vm).sameButNew ({ U with vm := s.vm } : State) [] (0 + 1) (0 + 6) := ⟨e1, e2⟩
    have h3 := X.same.trans h2
    rw [List.append_nil] at h3
    exact h3.mono hc hs
  refine ⟨U, ?_, .threw T.heap.size, hrun, hend, Or.inr ⟨T.heap.size, rfl, cls, ce, locs, hx U hWs.alike f1 (fun q hq => f2 q hq (fun z hz => nomatch hz)), hce, hO.vm, hcl, hWs, hall, hf⟩⟩
  refine st1 _ ?_
  show Steps p.tables e below (T1.setTop { method := m, pc := pc + 3, locals := ls, stack := .ref T.heap.size :: rest, locked := none }) _
  jvm_step X₁.here [X₁.here.top, hexec, d3', Value.category]
  exact X₁.ldcString hexec (own := own) (text := text) (index := is) (a := sa) hown' hstr'.1 hstr'.2
    (g := { method := m, pc := pc + 4, locals := ls, stack := .ref T.heap.size :: .ref T.heap.size :: rest, locked := none }) rfl d4' _ hsteps
/-- 'throw new E("text")', the text by a wide index -/
theorem vx_throwSW {cc : ByteArray} {pc : Nat} (hexec : p.tables.exec = Jvm.exec) (hb : c.code = cc) (hl : l.stackTraces = false) {own cls text : String} {names : List String} {ik is ic mc ms sa : Nat} {A : Nat → Prop}
    (hown : s.vm.findClass own = some m.cls) (hcls : Bundle.fit cls = true) (hnames : ∀ n ∈ names, Bundle.fit n = true)
    (hk : (Cond.classLink own ik cls).before args s = true) (hini : (Cond.initialized cls).before args s = true) (hstr : vk_R own is text sa s) (hat : ∀ w ∈ vx_atS own ic cls names, w.before args s = true)
    (hgood : ∀ w ∈ Cond.classLink own ik cls :: Cond.initialized cls :: vx_atS own ic cls names, vx_ot w = true)
    (hU : vx_Zq Bundle.tN "UNASSIGNED_STACK" Bundle.steD A s s.heap) (hN : vx_Zq Bundle.tN "SUPPRESSED_SENTINEL" Bundle.listD A s s.heap) (hS : va_S A s.heap H locs) (hsize : ls.size = c.maxLocals)
    (d0 : decode cc pc = .ok (.new ik, 3)) (d3 : decode cc (pc + 3) = .ok (.dup, 1)) (d4 : decode cc (pc + 4) = .ok (.ldc_w is, 3)) (d7 : decode cc (pc + 7) = .ok (.invokespecial ic, 3)) (d10 : decode cc (pc + 10) = .ok (.athrow, 1))
    (hout : ∀ x ∈ c.exceptionTable.toList, covers x (pc + 10) = false)
    (hRframes : names.length + 3 < R.frames) (hRlocals : (rest.map fun v => v.category).sum + (13 * (names.length + 1) + 43) ≤ R.locals) (hRcells : cells + 1 ≤ R.cells) (hRslots : slots + 6 ≤ R.slots) (hlocks : meth.locks = false)
    (hx : ∀ t : State, s.vm.Alike t.vm → H.size ≤ t.heap.size → (∀ q : Nat, q < H.size → t.heap[q]? = H[q]?) → XC cls s t)
    (hf : ∀ z ∈ locs, free z.base) (hc : cells + 1 ≤ mc) (hs : slots + 6 ≤ ms) :
    W p l e R s m args below meth c H locs cells slots (vx_MQ below Qc XC args s mc ms free) (F0 m pc ls rest) := by
  intro T hT X
  have htr : e.platform.stackTraces = false := (show e.platform.stackTraces = l.stackTraces by rw [X.admits.platform]).trans hl
  have Y := vx_rebase X (R' := { frames := R.frames, locals := R.locals, cells := 1, slots := 6 }) (Nat.le_refl _) (Nat.le_refl _) hRcells hRslots
  obtain ⟨s', hA⟩ : ∃ z, z = (T.setVm s.vm).setFrames (.invoking m args :: below) := ⟨_, rfl⟩
  rw [← hA] at Y
  have hvm : s'.vm = s.vm := by rw [hA]; rfl
  have hhp : s'.heap = H := by rw [hA]; exact hT
  have hW0 : s.WarmedH s'.vm := by rw [hvm]; exact State.WarmedH.refl s
  have hat' : ∀ w ∈ vx_atS own ic cls names, w.before args s' = true := fun w hw => vx_ot_at hW0 hvm.symm (hgood w (List.mem_cons_of_mem _ (List.mem_cons_of_mem _ hw))) (hat w hw)
  have hk' : (Cond.classLink own ik cls).before args s' = true := vx_ot_at hW0 hvm.symm (hgood _ List.mem_cons_self) hk
  have hini' : (Cond.initialized cls).before args s' = true := vx_ot_at hW0 hvm.symm (hgood _ (List.mem_cons_of_mem _ List.mem_cons_self)) hini
  have hU' : vx_Zq Bundle.tN "UNASSIGNED_STACK" Bundle.steD A s' s'.heap := by rw [hhp]; exact vx_Zq.moved hW0.alike (hU.kept hS.2.1)
  have hN' : vx_Zq Bundle.tN "SUPPRESSED_SENTINEL" Bundle.listD A s' s'.heap := by rw [hhp]; exact vx_Zq.moved hW0.alike (hN.kept hS.2.1)
  have h : ∀ w ∈ Bundle.ownAtoms own ic cls names, w.before args s' = true := vx_own hat' (vx_isRefq hU'.1) (vx_isRefq hN'.1) hU'.2.word hN'.2.word
  have hown' : s'.vm.findClass own = some m.cls := by rw [hvm]; exact hown
  have hins : (Cond.instantiable cls 6).before args s' = true := h _ (by simp [Bundle.ownAtoms])
  obtain ⟨vm₁, cX, kX, hfX, hkX, -, -, X₁, st1⟩ := Y.newCold hexec (own := own) (C := cls) (index := ik) (n := 6) hown' hk' hins hini'
    (g := F0 m pc ls rest) rfl (by rw [hb]; exact d0) (Nat.le_refl _) (Nat.le_refl _)
  generalize hT1 : (T.setVm vm₁).pushCell { cls := cX, slots := kX.instanceTypes.map defaultValue, vm := .none } = T1 at X₁ st1
  have hcat : (Value.ref T.heap.size).category = 1 := rfl
  have hcellA : T1.heap[T.heap.size]? = some (freshCell cX kX) := by rw [← hT1]; exact State.heap_pushCell_size _ _
  have d3' : decode c.code (pc + 3) = .ok (.dup, 1) := by rw [hb]; exact d3
  have d4' : decode c.code (pc + 4) = .ok (.ldc_w is, 3) := by rw [hb]; exact d4
  have hstr' : vk_R own is text sa s' := vk_R.warm hW0 hstr
  obtain ⟨U, hsteps, hrun, hend, hW, hsame, ce, hce, hO⟩ := X₁.ctorThrowS hexec htr (own := own) (cls := cls) (names := names) (ic := ic) hown' hcls hnames h (fun x hx => nomatch hx) hfX hkX hcellA (by rw [hhp, hT]; exact Nat.le_refl _) (msg := .ref sa) rfl
    (g := { method := m, pc := pc + 7, locals := ls, stack := .ref sa :: .ref T.heap.size :: .ref T.heap.size :: rest, locked := none }) rfl hsize rfl rfl (rest := rest) rfl
    (by rw [hb]; exact d7) (by rw [hb]; exact d10) hout hRframes (by simp only [List.map_cons, List.sum_cons, hcat]; omega) hlocks
  obtain ⟨f1, f2⟩ := vx_frame hsame
  rw [hhp] at f1 f2
  have hWs : s.WarmedH U.vm := State.WarmedH.trans hW0 hW
  have hcl : s.vm.findClass cls = some ce.cls := by
    have h9 := hO.cls
    rw [hvm] at h9
    exact h9
  have hall : s.sameButNew ({ U with vm := s.vm } : State) locs mc ms := by
    subst hA
    obtain ⟨e1, e2⟩ := hsame
    rw [State.setFrames_setFrames] at e1
    have h2 : (T.setVm s.vm).sameButNew ({ U with vm := s.vm } : State) [] (0 + 1) (0 + 6) := ⟨e1, e2⟩
    have h3 := X.same.trans h2
    rw [List.append_nil] at h3
    exact h3.mono hc hs
  refine ⟨U, ?_, .threw T.heap.size, hrun, hend, Or.inr ⟨T.heap.size, rfl, cls, ce, locs, hx U hWs.alike f1 (fun q hq => f2 q hq (fun z hz => nomatch hz)), hce, hO.vm, hcl, hWs, hall, hf⟩⟩
  refine st1 _ ?_
  show Steps p.tables e below (T1.setTop { method := m, pc := pc + 3, locals := ls, stack := .ref T.heap.size :: rest, locked := none }) _
  jvm_step X₁.here [X₁.here.top, hexec, d3', Value.category]
  exact X₁.ldcStringW hexec (own := own) (text := text) (index := is) (a := sa) hown' hstr'.1 hstr'.2
    (g := { method := m, pc := pc + 4, locals := ls, stack := .ref T.heap.size :: .ref T.heap.size :: rest, locked := none }) rfl d4' _ hsteps
end Ends
section Bodies
variable {l : Launch}
theorem vx_ofW {y : MethodName} {ws ws' : List Cond} {rm : Room} {Pc : Array Value → State → Prop} {Qc : Array Value → State → Outcome → State → Prop} {XC : String → State → State → Prop} {mc ms : Nat} {free : Addr → Prop} {cc : ByteArray} {maxL : Nat} {ret : Option FieldType}
    (hy : plainName y.cls = true) (hw : ws = Cond.code y cc maxL ret :: ws')
    (body : ∀ p e s m args below meth c s₁, BodyLoose p l y (headSpec ws rm) cc maxL ret e s m args below meth c s₁ → c.maxLocals = maxL → (∀ x ∈ c.exceptionTable.toList, False) → Pc args s →
      W p l e (headSpec ws rm).room s m args below meth c s.heap [] 0 0 (vx_MQ below Qc XC args s mc ms free) (entryFrame m args maxL)) : vx_Met l y ws rm Pc Qc XC mc ms free := by
  refine MetFree.of_bodyS (code := cc) (maxLocals := maxL) (ret := ret) hy ?_ ?_
  · intro args s m h hn
    obtain ⟨meth, c, h1, h2, h3, h4, h5, h6, -, -⟩ := Cond.code_spec hn (atoms_spec (ws := ws) h _ (by rw [hw]; exact List.mem_cons_self))
    exact ⟨meth, c, h1, h2, h3, h4, h5, h6⟩
  · intro p e s m args below meth c s₁ B hml hP _
    have hh0 : s₁.heap = s.heap := by rw [B.state]; rfl
    have ht : ∀ x ∈ c.exceptionTable.toList, False := by
      obtain ⟨meth9, c9, h1, h2, -, -, -, -, h7, -⟩ := Cond.code_spec B.named (atoms_spec (ws := ws) B.pre _ (by rw [hw]; exact List.mem_cons_self))
      cases Option.some.inj (h1.symm.trans B.method)
      cases Option.some.inj (h2.symm.trans (Stand.of_body B).code)
      intro x hx
      rw [Array.isEmpty_iff.mp h7] at hx
      cases hx
    obtain ⟨t, a1, o, b1, b2, b3⟩ := body p e s m args below meth c s₁ B hml ht hP s₁ hh0 (Stand.of_body B)
    exact ⟨t, o, a1, b1, b2, b3⟩
/-- the table of a body with handlers -/
theorem vx_table {p : Program} {x y : MethodName} {S : Spec} {cc bytes : ByteArray} {maxL maxL' : Nat} {ret ret' : Option FieldType} {e : Env} {s s₁ : State} {m : MethodId} {args : Array Value} {below : List Frame} {meth : Method} {c : Code} {hh : List (Nat × Nat × Nat × Nat)}
    (B : BodyLoose p l y S cc maxL ret e s m args below meth c s₁) (h : (Cond.codeWith y bytes maxL' ret' hh).before args s = true) : c.exceptionTable.toList = tableOf hh := by
  obtain ⟨m9, meth9, c9, hn9, h1, h2, -, -, h6, -⟩ := Cond.codeWith_spec h
  cases Option.some.inj (hn9.symm.trans B.named)
  cases Option.some.inj (h1.symm.trans B.method)
  cases Option.some.inj (h2.symm.trans (Stand.of_body B).code)
  rw [← h6, table_eq]
end Bodies
end VXA
/-! ===== END ===== -/
/-! ===== BEGIN a static call of a method with an exception table ===== -/
section VXS
variable {p : Program} {l : Launch} {e : Env} {R : Room} {s : State} {m : MethodId} {args : Array Value} {below : List Frame} {meth : Method} {c : Code} {T : State} {H : Heap} {locs : List Loc} {cells slots : Nat}
abbrev vx_CSW (R : Room) (s : State) (args : Array Value) (own : String) (index : Nat) (y : MethodName) (bytes : ByteArray) (maxL : Nat) (ret : Option FieldType) (hh : List (Nat × Nat × Nat × Nat)) (ws : List Cond) (rm : Room) (mc ms n : Nat) : Prop :=
  (rm.cells = mc ∧ rm.slots = ms ∧ rm.frames + 1 ≤ R.frames ∧ 8 + (maxL + 11) + rm.locals ≤ R.locals ∧ (∀ w ∈ ws, ∀ (a' : Array Value) (U : State), s.WarmedH U.vm → w.before a' U = true) ∧ Cond.codeWith y bytes maxL ret hh ∈ ws) ∧
  (Cond.codeWith y bytes maxL ret hh).before args s = true ∧ (Cond.initialized y.cls).before args s = true ∧ (y.cls ≠ "java/lang/invoke/MethodHandle" ∧ y.cls ≠ "java/lang/invoke/VarHandle") ∧
  (∀ sig, parseMethodDescriptor y.desc = some sig → n = sig.parameters.length) ∧ (Cond.methodLink own index y).before args s = true ∧ (Cond.static y).before args s = true
theorem vx_cwSW {own : String} {index maxL mc ms : Nat} {y : MethodName} {bytes : ByteArray} {ret : Option FieldType} {hh : List (Nat × Nat × Nat × Nat)} {Ts ws ws' : List Cond} {rm : Room} (n : Nat) (ht : ∀ w ∈ Ts, w.before args s = true) (hT : GoodIn Ts (va_wsS own index y ws)) (hw : ws = Cond.codeWith y bytes maxL ret hh :: ws') (hrc : rm.cells = mc) (hrs : rm.slots = ms)
    (hd : y.cls ≠ "java/lang/invoke/MethodHandle" ∧ y.cls ≠ "java/lang/invoke/VarHandle" ∧ (parseMethodDescriptor y.desc).map (fun d => d.parameters.length) = some n) (hR : rm.frames + 1 ≤ R.frames ∧ 8 + (maxL + 11) + rm.locals ≤ R.locals) :
    vx_CSW R s args own index y bytes maxL ret hh ws rm mc ms n := by
  have ok : ∀ w ∈ va_wsS own index y ws, w.before args s = true := fun w h => ht w (hT w h).1
  have hG : GoodIn Ts ws := fun w h => hT w (by unfold va_wsS; exact List.mem_append_right _ h)
  have hc : Cond.codeWith y bytes maxL ret hh ∈ ws := by rw [hw]; exact List.mem_cons_self
  refine ⟨⟨hrc, hrs, hR.1, hR.2, pay_in ht hG, hc⟩, ht _ (hG _ hc).1, ok _ (by simp [va_wsS]), ⟨hd.1, hd.2.1⟩, fun sig h => ?_, ok _ (by simp [va_wsS]), ok _ (by simp [va_wsS])⟩
  have h2 := hd.2.2
  rw [h] at h2
  exact (Option.some.inj h2).symm
theorem vx_callSW (X : Stand p l e R s m args below meth c T locs cells slots) (hexec : p.tables.exec = Jvm.exec) {own : String} {index : Nat} {y : MethodName} {bytes : ByteArray} {maxL : Nat} {ret : Option FieldType} {hh : List (Nat × Nat × Nat × Nat)}
    (hown : s.vm.findClass own = some m.cls) (hlink : (Cond.methodLink own index y).before args s = true) (hstat : (Cond.static y).before args s = true) (hinit : (Cond.initialized y.cls).before args s = true)
    (hcode : (Cond.codeWith y bytes maxL ret hh).before args s = true) (hy : y.cls ≠ "java/lang/invoke/MethodHandle" ∧ y.cls ≠ "java/lang/invoke/VarHandle")
    {W9 : Nat} {Pre : Pt → Array Value → Prop} {Post : Pt → Array Value → Option Value → Pt → Prop} (hK : Back l R p e below s args y 3 W9 Pre Post)
    {g : JFrame} (hg : g.method = m) (hsize : g.locals.size = c.maxLocals) {argsL rest : List Value} (hlen : ∀ sig, parseMethodDescriptor y.desc = some sig → argsL.length = sig.parameters.length)
    (hstack : g.stack = argsL.reverse ++ rest) (hW : 2 * g.monitorRoom + (rest.map fun v => v.category).sum ≤ W9) (hdg : decode c.code g.pc = .ok (.invokestatic index, 3))
    (hpre : ∀ vm₁, s.WarmedH vm₁ → Pre ⟨T.setVm vm₁, locs, cells, slots⟩ argsL.toArray) :
    ∃ (v : Option Value) (vm₁ : Vm) (B : Pt), s.WarmedH vm₁ ∧ Stand p l e R s m args below meth c B.U B.locs B.cells B.slots ∧ Post ⟨T.setVm vm₁, locs, cells, slots⟩ argsL.toArray v B ∧
      ∀ target, Steps p.tables e below (B.U.setTop { g with pc := g.pc + 3, stack := v.toList ++ rest }) target → Steps p.tables e below (T.setTop g) target := by
  obtain ⟨mk, methM, cM, hnamed, hmethM, -, -, -, -, -, -, hsigM⟩ := Cond.codeWith_spec hcode
  have hstatic : methM.isStatic = true := Cond.static_spec hnamed hmethM hstat
  obtain ⟨kP, hkP, -⟩ := className_of_methodNamed hnamed
  have hinitP : kP.init = .initialized := Cond.initialized_spec (findClass_of_methodNamed hnamed) hkP hinit
  obtain ⟨vm₁, X₁, hstep₁⟩ := X.invokestatic hexec hown hlink hnamed hmethM hstatic hkP hinitP hy (g := g) hg (argsL := argsL) (rest := rest) (hlen _ hsigM) hstack hdg
  obtain ⟨v, B, X', hpost, hsteps⟩ := hK m meth c ⟨T.setVm vm₁, locs, cells, slots⟩ { g with stack := rest } (.invokestatic index) mk argsL.toArray X₁ hg hsize hdg hW (X₁.named hnamed) (hpre vm₁ X₁.warmed)
  exact ⟨v, vm₁, B, X₁.warmed, X', hpost, fun target h => hstep₁ _ fun acts => by rw [doInvoke_state]; exact hsteps.trans h⟩
theorem vx_runSW {y : MethodName} {bytes cc : ByteArray} {maxL nL mc ms n index : Nat} {ret : Option FieldType} {hh : List (Nat × Nat × Nat × Nat)} {ws : List Cond} {rm : Room} {Pc : Array Value → State → Prop} {Qc : Array Value → State → Outcome → State → Prop} {free : Addr → Prop} {Ts : List Cond} {own : String} {As rest : List Value} {g : JFrame}
    (S : CallFix p m c cc nL s args Ts own) (hM : Met l y ws rm Pc Qc mc ms free) (cw : vx_CSW R s args own index y bytes maxL ret hh ws rm mc ms n) (hp : PreS s H Pc As)
    (hg : g.method = m) (hn : As.length = n) (hsize : g.locals.size = nL) (hstack : g.stack = As.reverse ++ rest) (hW : 2 * g.monitorRoom + (rest.map fun v => v.category).sum ≤ 8) (hdg : decode cc g.pc = .ok (.invokestatic index, 3)) (hf : cells + mc ≤ R.cells ∧ slots + ms ≤ R.slots) :
    va_Run p l e R s m args below meth c H locs cells slots mc ms g rest (Qc As.toArray) (free) := by
  obtain ⟨⟨hrc, hrs, hfr, hlo, hws, hcw⟩, hcode, hini, hy, hlen, hl, hstt⟩ := cw
  have hK : Back l R p e below s args y 3 8 (PreOf R mc ms Pc) (PostOf Qc mc ms free) := va_backW (hh := hh) (bytes := bytes) (maxL := maxL) (ret := ret) hM hp.1 hrc hrs hfr hlo hws hcw (fun a' U hW => word_at hW (Or.inl (by first | rfl | simp [Cond.onTables, Cond.keeps, Cond.steady])) hini)
  obtain ⟨hx, hb, hml, ho, -⟩ := S
  intro T hT X
  obtain ⟨v, vm₁, ⟨U', l2, c2, s2⟩, hW₁, X', ⟨g', mk, t, L, e1, e2, hq, h1, hL, h2, h3⟩, st⟩ := vx_callSW X hx (hh := hh) (bytes := bytes) (maxL := maxL) (ret := ret) ho hl hstt hini hcode hy hK hg (hsize.trans hml.symm) (argsL := As) (rest := rest) (fun sig h => hn.trans (hlen sig h)) hstack hW (by rw [hb]; exact hdg)
    (fun vm₁ hW₁ => ⟨hf.1, hf.2, hp.2 (T.setVm vm₁) hT hW₁⟩)
  dsimp only [Pt.U, Pt.locs, Pt.cells, Pt.slots] at X' e1 e2 h1 h2 h3 st
  subst h1; subst h2; subst h3
  exact ⟨v, (T.setVm vm₁).calling g' mk As.toArray, t, U', L, hT, X', hL, e1, e2, hq, st⟩
/-- not caught here, past rows that name other classes: it goes on to the caller -/
theorem vx_outP {p : Program} {l : Launch} {e : Env} {R : Room} {s : State} {m : MethodId} {args : Array Value} {below : List Frame} {meth : Method} {c : Code} {H : Heap} {locs : List Loc} {cells slots : Nat} {free : Addr → Prop} {ls : Array Slot} {rest : List Value} {Qc : Array Value → State → Outcome → State → Prop} {XC : String → State → State → Prop}
    {pc : Nat} {own E : String} {ce : Cell} {q : Addr} {mc ms : Nat} (hown : s.vm.findClass own = some m.cls) (hlocks : meth.locks = false)
    (hpass : ∀ z ∈ c.exceptionTable.toList, covers z pc = false ∨ (z.catchType ≠ 0 ∧ ∃ nm : String, (Cond.classLink own z.catchType nm).before args s = true ∧ va_Nc E nm s)) (hcell : H[q]? = some ce) (hv : ce.vm = .none) (hcl : s.vm.findClass E = some ce.cls)
    (hx : ∀ t : State, t.heap = H → s.vm.Alike t.vm → XC E s t) (hf : ∀ z ∈ locs, free z.base) (hc : cells ≤ mc) (hs : slots ≤ ms) :
    vx_W p l e R s m args below meth c H locs cells slots (vx_MQ below Qc XC args s mc ms free) (F0 m pc ls rest) q := by
  intro T hT X
  have hpl : e.platform.magicAccessors = ({} : Platform).magicAccessors := by rw [X.admits.platform]
  obtain ⟨vm', hW', X', st⟩ := X.outThrough hlocks q (g := F0 m pc ls rest) rfl rfl rfl (cell := ce) (by rw [hT]; exact hcell) (by rw [hv]; rfl)
    (by obtain ⟨k9, h9, -⟩ := Vm.findClass_spec hcl; exact ⟨k9, h9⟩) (fun z hz => by
      rcases hpass z hz with h | ⟨hz0, nm, hl1, hn1⟩
      · exact Or.inl h
      · obtain ⟨c6, hc6, hcl6⟩ := Cond.classLink_spec hown hl1 e.platform hpl
        obtain ⟨a8, b8, h1, h2, h3⟩ := hn1
        cases Option.some.inj (h1.symm.trans hcl)
        cases Option.some.inj (h2.symm.trans hc6)
        exact Or.inr ⟨hz0, _, hcl6, h3⟩)
  obtain ⟨g₀, hfr⟩ := X'.frames_eq
  have hcell9 : ((T.setVm vm').setFrames (.throwing q :: below)).heap[q]? = some ce := by
    show T.heap[q]? = some ce
    rw [hT]; exact hcell
  have hend : Ended ((T.setVm vm').setFrames (.throwing q :: below)) below (.threw q) := State.frames_setFrames _ (State.cur_lt_of_frames hfr)
  refine ⟨(T.setVm vm').setFrames (.throwing q :: below), ?_, .threw q, X'.here.running, hend, Or.inr ⟨q, rfl, E, ce, locs, hx _ hT (X'.ends _).1.alike, hcell9, hv, hcl, (X'.ends _).1, (X'.ends _).2.mono hc hs, hf⟩⟩
  rw [X.pushThrowing_eq]
  exact st
/-- a thing of a world lies in the heap -/
theorem vx_lt {D : va_G} {cl : List vw_C} {ws : va_W} {H1 : Heap} (h : va_P D cl ws H1) {k : Nat} {q : Nat × va_E} (hk : ws[k]? = some q) : q.1 < H1.size := (h k q hk).lt
end VXS
/-! ===== END ===== -/
/-! ===== BEGIN methods with a table of their own: called by a name, returning or throwing ===== -/
section VXH
/-! vx_backW, vx_callVX, vx_callSX, vx_callVW, vx_runVW, vx_runVX, vx_runSX, vx_ofWH follow the same proofs as their sisters above (Free/Laws.lean, Shelf42/LK1.lean); vx_outP calls Shelf42/NT130.lean (outThrough). -/
section
variable {l : Launch} {R : Room} {p : Program} {e : Env} {below : List Frame} {s : State} {sargs : Array Value} {y : MethodName} {len W9 : Nat}
theorem vx_backW {ws : List Cond} {rm : Room} {Pc : Array Value → State → Prop} {Qc : Array Value → State → Outcome → State → Prop} {XC : String → State → State → Prop} {mc ms : Nat} {free : Addr → Prop} {bytes : ByteArray} {maxL : Nat} {ret : Option FieldType} {hh : List (Nat × Nat × Nat × Nat)}
    (hM : vx_Met l y ws rm Pc Qc XC mc ms free) (hblind : FrameBlind Pc) (hrc : rm.cells = mc) (hrs : rm.slots = ms)
    (hframes : rm.frames + 1 ≤ R.frames) (hlocals : W9 + (maxL + 11) + rm.locals ≤ R.locals)
    (hws : ∀ w ∈ ws, ∀ a' U, s.WarmedH U.vm → w.before a' U = true) (hcode : Cond.codeWith y bytes maxL ret hh ∈ ws) (hinit : ∀ a' U, s.WarmedH U.vm → (Cond.initialized y.cls).before a' U = true) :
    vx_Back l R p e below s sargs y len W9 (PreOf R mc ms Pc) (PostOf Qc mc ms free) (vx_Post XC mc ms free) := by
  intro m meth c A g ig mk a X hg hsize hdg hW hn hp
  have h1 : (headSpec ws rm).pre.before a A.U = true := atoms_intro fun w hw => hws w hw _ _ X.warmed
  have h2 : (Cond.codeWith y bytes maxL ret hh).before a A.U = true := hws _ hcode _ _ X.warmed
  have h3 : (Cond.initialized y.cls).before a A.U = true := hinit _ _ X.warmed
  have h4 : A.cells + (headSpec ws rm).room.cells ≤ R.cells := by rw [show (headSpec ws rm).room.cells = mc from hrc]; exact hp.1
  have h5 : A.slots + (headSpec ws rm).room.slots ≤ R.slots := by rw [show (headSpec ws rm).room.slots = ms from hrs]; exact hp.2.1
  have hPc : Pc a (A.U.calling g mk a) := hblind _ _ _ _ hp.2.2
  obtain ⟨U, Ls, c0, s0⟩ := A
  dsimp only [Pt.U, Pt.locs, Pt.cells, Pt.slots] at h1 h2 h3 h4 h5 X hn hPc ⊢
  obtain ⟨m9, methY, cY, hn9, hmY, hcY, -, hlY, -⟩ := Cond.codeWith_spec h2
  cases Option.some.inj (hn9.symm.trans hn)
  obtain ⟨kY, hkY, -⟩ := className_of_methodNamed hn
  have hinitY : kY.init = .initialized := Cond.initialized_spec (findClass_of_methodNamed hn) hkY h3
  have h : At U g.method c below := by rw [hg]; exact X.here
  have hlocals9 : W9 + (maxL + 11) + (headSpec ws rm).room.locals ≤ R.locals := hlocals
  have happ : (headSpec ws rm).appliesLoose y e.platform (U.calling g mk a) = true :=
    Spec.appliesLoose_calling (g := g) h hdg hn hkY hinitY
      (X.room_calling (g := g) (R' := (headSpec ws rm).room) hsize hmY hcY hframes (by rw [hlY]; omega) h4 h5) h1
  obtain ⟨mid, hmid⟩ := h.above
  have hfr : (U.setTop g).frames = (.java g :: mid) ++ below := by rw [State.frames_setTop' g h.top, hmid]; rfl
  obtain ⟨o, s₂, hsteps, -, hend, hq⟩ := Steps.callFree hM p X.admits X.cas X.clock (acts := []) hfr happ hPc trivial
  have hq' : vx_Q Qc XC mc ms free a (U.calling g mk a) o s₂ := hq
  rw [State.frames_setTop' g h.top] at hend
  obtain ⟨g₀, hg0⟩ := Option.isSome_iff_exists.mp h.top
  obtain ⟨r, hr⟩ := State.topJava?_eq_some.mp hg0
  have hr' : (({ U with heap := s₂.heap, slotsUsed := s₂.slotsUsed } : State).setVm s₂.vm).frames = .java g₀ :: r := hr
  rcases hq' with ⟨hqc, L, hfe, hL⟩ | ⟨q, rfl, E, ce, L, hx, hce, hcv, hcl, hW₂, hsm, hL⟩
  · obtain ⟨⟨v, rfl⟩, hW₂, e2, q2, q3, q4, q5, q6⟩ := id hfe
    have e3 : s₂ = ({ (U.calling g mk a).setFrames s₂.frames with heap := s₂.heap, slotsUsed := s₂.slotsUsed } : State).setVm s₂.vm := by
      have : s₂ = ({ s₂ with vm := (U.calling g mk a).vm } : State).setVm s₂.vm := rfl
      rw [e2] at this
      exact this
    obtain ⟨c₂, i₂, len₂, hc₂, hd₂, hf₂⟩ := hend
    have hW' : U.WarmedH s₂.vm := hW₂
    have hcc : c₂ = c := by
      have h1 : s₂.code? g.method = U.code? g.method := by
        rw [State.code?_eq, State.code?_eq, hW'.alike.method?]
      exact Option.some.inj (hc₂.symm.trans (h1.trans h.code))
    subst hcc
    have hlen : len₂ = len := by rw [hdg] at hd₂; cases hd₂; rfl
    subst hlen
    have hs₂ : s₂ = (({ U with heap := s₂.heap, slotsUsed := s₂.slotsUsed } : State).setVm s₂.vm).setTop { g with pc := g.pc + len₂, stack := v.toList ++ g.stack } := by
      refine e3.trans ?_
      rw [hf₂, State.calling_eq h.top, State.setFrames_setFrames, State.setTop_of_frames _ hr', hr]
      rfl
    have hsame : U.sameButNew ({ U with heap := s₂.heap, slotsUsed := s₂.slotsUsed } : State) L mc ms := by
      refine ⟨?_, q2, q3, q4, q5, q6⟩
      obtain ⟨t, ht, -⟩ := State.frames_cons hr
      show ({ U with heap := s₂.heap, slotsUsed := s₂.slotsUsed } : State) = { U.setFrames U.frames with heap := s₂.heap, slotsUsed := s₂.slotsUsed }
      rw [State.setFrames_self ht]
    subst hg
    refine Or.inl ⟨v, ⟨(({ U with heap := s₂.heap, slotsUsed := s₂.slotsUsed } : State).setVm s₂.vm), Ls ++ L, c0 + mc, s0 + ms⟩,
      ⟨X.admits, X.cas, X.clock, X.frames, X.room, X.hears, X.method, X.code, (X.here.setHeapUsed s₂.heap s₂.slotsUsed).setVm hW'.alike, X.tail, State.WarmedH.trans X.warmed hW', X.limits, X.bytes, X.same.trans (hsame.setVm s.vm)⟩,
      ⟨g, mk, s₂, L, rfl, rfl, hqc, rfl, hL, rfl, rfl⟩, ?_⟩
    show Steps p.tables e below _ ((({ U with heap := s₂.heap, slotsUsed := s₂.slotsUsed } : State).setVm s₂.vm).setTop { g with pc := g.pc + len₂, stack := v.toList ++ g.stack })
    rw [← hs₂]
    exact hsteps
  · obtain ⟨e2, q2, q3, q4, q5, q6⟩ := id hsm
    have e3 : s₂ = ({ (U.calling g mk a).setFrames s₂.frames with heap := s₂.heap, slotsUsed := s₂.slotsUsed } : State).setVm s₂.vm := by
      have : s₂ = ({ s₂ with vm := (U.calling g mk a).vm } : State).setVm s₂.vm := rfl
      rw [e2] at this
      exact this
    have hf₂ : s₂.frames = .throwing q :: .java g :: U.frames.tail := hend
    have hW' : U.WarmedH s₂.vm := hW₂
    have hs₂ : s₂ = ((({ U with heap := s₂.heap, slotsUsed := s₂.slotsUsed } : State).setVm s₂.vm).setTop g).pushFrame (.throwing q) := by
      refine e3.trans ?_
      rw [hf₂, State.calling_eq h.top, State.setFrames_setFrames, State.pushFrame, State.frames_setTop _ hr', State.setTop_of_frames _ hr', State.setFrames_setFrames, hr]
      rfl
    have hsame : U.sameButNew ({ U with heap := s₂.heap, slotsUsed := s₂.slotsUsed } : State) L mc ms := by
      refine ⟨?_, q2, q3, q4, q5, q6⟩
      obtain ⟨t, ht, -⟩ := State.frames_cons hr
      show ({ U with heap := s₂.heap, slotsUsed := s₂.slotsUsed } : State) = { U.setFrames U.frames with heap := s₂.heap, slotsUsed := s₂.slotsUsed }
      rw [State.setFrames_self ht]
    subst hg
    refine Or.inr ⟨q, ⟨(({ U with heap := s₂.heap, slotsUsed := s₂.slotsUsed } : State).setVm s₂.vm), Ls ++ L, c0 + mc, s0 + ms⟩,
      ⟨X.admits, X.cas, X.clock, X.frames, X.room, X.hears, X.method, X.code, (X.here.setHeapUsed s₂.heap s₂.slotsUsed).setVm hW'.alike, X.tail, State.WarmedH.trans X.warmed hW', X.limits, X.bytes, X.same.trans (hsame.setVm s.vm)⟩,
      ⟨g, mk, s₂, L, E, ce, rfl, rfl, hx, hce, hcv, hcl, rfl, hL, rfl, rfl⟩, ?_⟩
    show Steps p.tables e below _ (((({ U with heap := s₂.heap, slotsUsed := s₂.slotsUsed } : State).setVm s₂.vm).setTop g).pushFrame (.throwing q))
    rw [← hs₂]
    exact hsteps
end
variable {p : Program} {l : Launch} {e : Env} {R : Room} {s : State} {m : MethodId} {args : Array Value} {below : List Frame} {meth : Method} {c : Code} {T : State} {H : Heap} {locs : List Loc} {cells slots : Nat}
theorem vx_callVX (X : Stand p l e R s m args below meth c T locs cells slots) (hexec : p.tables.exec = Jvm.exec) {own C : String} {index : Nat} {y : MethodName} {bytes : ByteArray} {maxL : Nat} {ret : Option FieldType} {hh : List (Nat × Nat × Nat × Nat)}
    (hown : s.vm.findClass own = some m.cls) (hlink : (Cond.methodLink own index y).before args s = true) (hinst : (Cond.instanceMethod y).before args s = true) (hsel : (Cond.selects C y y).before args s = true)
    (hcode : (Cond.codeWith y bytes maxL ret hh).before args s = true) (hy : y.cls ≠ "java/lang/invoke/MethodHandle" ∧ y.cls ≠ "java/lang/invoke/VarHandle")
    {W9 : Nat} {Pre : Pt → Array Value → Prop} {Post : Pt → Array Value → Option Value → Pt → Prop} {PostX : Pt → Array Value → Addr → Pt → Prop} (hK : vx_Back l R p e below s args y 3 W9 Pre Post PostX)
    {b : Addr} {cellB : Cell} (hcell : T.heap[b]? = some cellB) (hobj : cellB.vm.isStatics = false) (hcls : s.vm.findClass C = some cellB.cls)
    {g : JFrame} (hg : g.method = m) (hsize : g.locals.size = c.maxLocals) {argsL rest : List Value} (hlen : ∀ sig, parseMethodDescriptor y.desc = some sig → argsL.length = sig.parameters.length)
    (hstack : g.stack = argsL.reverse ++ .ref b :: rest) (hW : 2 * g.monitorRoom + (rest.map fun v => v.category).sum ≤ W9) (hdg : decode c.code g.pc = .ok (.invokevirtual index, 3))
    (hpre : ∀ vm₁, s.WarmedH vm₁ → Pre ⟨T.setVm vm₁, locs, cells, slots⟩ (Value.ref b :: argsL).toArray) :
    (∃ (v : Option Value) (vm₁ : Vm) (B : Pt), s.WarmedH vm₁ ∧ Stand p l e R s m args below meth c B.U B.locs B.cells B.slots ∧ Post ⟨T.setVm vm₁, locs, cells, slots⟩ (Value.ref b :: argsL).toArray v B ∧
      ∀ target, Steps p.tables e below (B.U.setTop { g with pc := g.pc + 3, stack := v.toList ++ rest }) target → Steps p.tables e below (T.setTop g) target) ∨
    (∃ (q : Addr) (vm₁ : Vm) (B : Pt), s.WarmedH vm₁ ∧ Stand p l e R s m args below meth c B.U B.locs B.cells B.slots ∧ PostX ⟨T.setVm vm₁, locs, cells, slots⟩ (Value.ref b :: argsL).toArray q B ∧
      Steps p.tables e below (T.setTop g) ((B.U.setTop { g with stack := rest }).pushFrame (.throwing q))) := by
  obtain ⟨mk, methM, hnamed, hmethM, hstM, habM⟩ := Cond.instanceMethod_spec hinst
  obtain ⟨m8, methM', cM, hn8, hmethM', -, -, -, -, -, -, hsigM⟩ := Cond.codeWith_spec hcode
  cases Option.some.inj (hn8.symm.trans hnamed)
  cases hmethM.symm.trans hmethM'
  obtain ⟨c2, r2, m2, q1, q2, q3, q4, kP, hkP, hkPi⟩ := Cond.selects_spec hsel
  cases hcls.symm.trans q1
  cases (State.methodFound?_of_named hnamed hy).symm.trans q2
  cases hnamed.symm.trans q3
  have hselP : selectMethod e.platform s.vm cellB.cls mk = .method mk := by rw [Launch.admits_selectMethod X.admits]; exact q4
  obtain ⟨vm₁, X₁, hstep₁⟩ := X.invokevirtual hexec hown hlink hnamed hmethM hstM hkP hkPi hy (a := b) (cell := cellB) hcell
    (fun z h => by rw [h] at hobj; cases hobj) hselP hmethM habM hkP hkPi (g := g) hg (argsL := argsL) (rest := rest) (hlen _ hsigM) hstack hdg
  rcases hK m meth c ⟨T.setVm vm₁, locs, cells, slots⟩ { g with stack := rest } (.invokevirtual index) mk (Value.ref b :: argsL).toArray X₁ hg hsize hdg hW (X₁.named hnamed) (hpre vm₁ X₁.warmed) with ⟨v, B, X', hpost, hsteps⟩ | ⟨q, B, X', hpost, hsteps⟩
  · exact Or.inl ⟨v, vm₁, B, X₁.warmed, X', hpost, fun target h => hstep₁ _ fun acts => by rw [doInvoke_state]; exact hsteps.trans h⟩
  · exact Or.inr ⟨q, vm₁, B, X₁.warmed, X', hpost, hstep₁ _ fun acts => by rw [doInvoke_state]; exact hsteps⟩
theorem vx_callSX (X : Stand p l e R s m args below meth c T locs cells slots) (hexec : p.tables.exec = Jvm.exec) {own : String} {index : Nat} {y : MethodName} {bytes : ByteArray} {maxL : Nat} {ret : Option FieldType} {hh : List (Nat × Nat × Nat × Nat)}
    (hown : s.vm.findClass own = some m.cls) (hlink : (Cond.methodLink own index y).before args s = true) (hstat : (Cond.static y).before args s = true) (hinit : (Cond.initialized y.cls).before args s = true)
    (hcode : (Cond.codeWith y bytes maxL ret hh).before args s = true) (hy : y.cls ≠ "java/lang/invoke/MethodHandle" ∧ y.cls ≠ "java/lang/invoke/VarHandle")
    {W9 : Nat} {Pre : Pt → Array Value → Prop} {Post : Pt → Array Value → Option Value → Pt → Prop} {PostX : Pt → Array Value → Addr → Pt → Prop} (hK : vx_Back l R p e below s args y 3 W9 Pre Post PostX)
    {g : JFrame} (hg : g.method = m) (hsize : g.locals.size = c.maxLocals) {argsL rest : List Value} (hlen : ∀ sig, parseMethodDescriptor y.desc = some sig → argsL.length = sig.parameters.length)
    (hstack : g.stack = argsL.reverse ++ rest) (hW : 2 * g.monitorRoom + (rest.map fun v => v.category).sum ≤ W9) (hdg : decode c.code g.pc = .ok (.invokestatic index, 3))
    (hpre : ∀ vm₁, s.WarmedH vm₁ → Pre ⟨T.setVm vm₁, locs, cells, slots⟩ argsL.toArray) :
    (∃ (v : Option Value) (vm₁ : Vm) (B : Pt), s.WarmedH vm₁ ∧ Stand p l e R s m args below meth c B.U B.locs B.cells B.slots ∧ Post ⟨T.setVm vm₁, locs, cells, slots⟩ argsL.toArray v B ∧
      ∀ target, Steps p.tables e below (B.U.setTop { g with pc := g.pc + 3, stack := v.toList ++ rest }) target → Steps p.tables e below (T.setTop g) target) ∨
    (∃ (q : Addr) (vm₁ : Vm) (B : Pt), s.WarmedH vm₁ ∧ Stand p l e R s m args below meth c B.U B.locs B.cells B.slots ∧ PostX ⟨T.setVm vm₁, locs, cells, slots⟩ argsL.toArray q B ∧
      Steps p.tables e below (T.setTop g) ((B.U.setTop { g with stack := rest }).pushFrame (.throwing q))) := by
  obtain ⟨mk, methM, cM, hnamed, hmethM, -, -, -, -, -, -, hsigM⟩ := Cond.codeWith_spec hcode
  have hstatic : methM.isStatic = true := Cond.static_spec hnamed hmethM hstat
  obtain ⟨kP, hkP, -⟩ := className_of_methodNamed hnamed
  have hinitP : kP.init = .initialized := Cond.initialized_spec (findClass_of_methodNamed hnamed) hkP hinit
  obtain ⟨vm₁, X₁, hstep₁⟩ := X.invokestatic hexec hown hlink hnamed hmethM hstatic hkP hinitP hy (g := g) hg (argsL := argsL) (rest := rest) (hlen _ hsigM) hstack hdg
  rcases hK m meth c ⟨T.setVm vm₁, locs, cells, slots⟩ { g with stack := rest } (.invokestatic index) mk argsL.toArray X₁ hg hsize hdg hW (X₁.named hnamed) (hpre vm₁ X₁.warmed) with ⟨v, B, X', hpost, hsteps⟩ | ⟨q, B, X', hpost, hsteps⟩
  · exact Or.inl ⟨v, vm₁, B, X₁.warmed, X', hpost, fun target h => hstep₁ _ fun acts => by rw [doInvoke_state]; exact hsteps.trans h⟩
  · exact Or.inr ⟨q, vm₁, B, X₁.warmed, X', hpost, hstep₁ _ fun acts => by rw [doInvoke_state]; exact hsteps⟩
theorem vx_callVW (X : Stand p l e R s m args below meth c T locs cells slots) (hexec : p.tables.exec = Jvm.exec) {own C : String} {index : Nat} {y : MethodName} {bytes : ByteArray} {maxL : Nat} {ret : Option FieldType} {hh : List (Nat × Nat × Nat × Nat)}
    (hown : s.vm.findClass own = some m.cls) (hlink : (Cond.methodLink own index y).before args s = true) (hinst : (Cond.instanceMethod y).before args s = true) (hsel : (Cond.selects C y y).before args s = true)
    (hcode : (Cond.codeWith y bytes maxL ret hh).before args s = true) (hy : y.cls ≠ "java/lang/invoke/MethodHandle" ∧ y.cls ≠ "java/lang/invoke/VarHandle")
    {W9 : Nat} {Pre : Pt → Array Value → Prop} {Post : Pt → Array Value → Option Value → Pt → Prop} (hK : Back l R p e below s args y 3 W9 Pre Post)
    {b : Addr} {cellB : Cell} (hcell : T.heap[b]? = some cellB) (hobj : cellB.vm.isStatics = false) (hcls : s.vm.findClass C = some cellB.cls)
    {g : JFrame} (hg : g.method = m) (hsize : g.locals.size = c.maxLocals) {argsL rest : List Value} (hlen : ∀ sig, parseMethodDescriptor y.desc = some sig → argsL.length = sig.parameters.length)
    (hstack : g.stack = argsL.reverse ++ .ref b :: rest) (hW : 2 * g.monitorRoom + (rest.map fun v => v.category).sum ≤ W9) (hdg : decode c.code g.pc = .ok (.invokevirtual index, 3))
    (hpre : ∀ vm₁, s.WarmedH vm₁ → Pre ⟨T.setVm vm₁, locs, cells, slots⟩ (Value.ref b :: argsL).toArray) :
    ∃ (v : Option Value) (vm₁ : Vm) (B : Pt), s.WarmedH vm₁ ∧ Stand p l e R s m args below meth c B.U B.locs B.cells B.slots ∧ Post ⟨T.setVm vm₁, locs, cells, slots⟩ (Value.ref b :: argsL).toArray v B ∧
      ∀ target, Steps p.tables e below (B.U.setTop { g with pc := g.pc + 3, stack := v.toList ++ rest }) target → Steps p.tables e below (T.setTop g) target := by
  obtain ⟨mk, methM, hnamed, hmethM, hstM, habM⟩ := Cond.instanceMethod_spec hinst
  obtain ⟨m8, methM', cM, hn8, hmethM', -, -, -, -, -, -, hsigM⟩ := Cond.codeWith_spec hcode
  cases Option.some.inj (hn8.symm.trans hnamed)
  cases hmethM.symm.trans hmethM'
  obtain ⟨c2, r2, m2, q1, q2, q3, q4, kP, hkP, hkPi⟩ := Cond.selects_spec hsel
  cases hcls.symm.trans q1
  cases (State.methodFound?_of_named hnamed hy).symm.trans q2
  cases hnamed.symm.trans q3
  have hselP : selectMethod e.platform s.vm cellB.cls mk = .method mk := by rw [Launch.admits_selectMethod X.admits]; exact q4
  obtain ⟨vm₁, X₁, hstep₁⟩ := X.invokevirtual hexec hown hlink hnamed hmethM hstM hkP hkPi hy (a := b) (cell := cellB) hcell
    (fun z h => by rw [h] at hobj; cases hobj) hselP hmethM habM hkP hkPi (g := g) hg (argsL := argsL) (rest := rest) (hlen _ hsigM) hstack hdg
  obtain ⟨v, B, X', hpost, hsteps⟩ := hK m meth c ⟨T.setVm vm₁, locs, cells, slots⟩ { g with stack := rest } (.invokevirtual index) mk (Value.ref b :: argsL).toArray X₁ hg hsize hdg hW (X₁.named hnamed) (hpre vm₁ X₁.warmed)
  exact ⟨v, vm₁, B, X₁.warmed, X', hpost, fun target h => hstep₁ _ fun acts => by rw [doInvoke_state]; exact hsteps.trans h⟩
abbrev vx_CVW (R : Room) (s : State) (args : Array Value) (own C : String) (index : Nat) (y : MethodName) (bytes : ByteArray) (maxL : Nat) (ret : Option FieldType) (hh : List (Nat × Nat × Nat × Nat)) (ws : List Cond) (rm : Room) (mc ms n : Nat) : Prop :=
  (rm.cells = mc ∧ rm.slots = ms ∧ rm.frames + 1 ≤ R.frames ∧ 8 + (maxL + 11) + rm.locals ≤ R.locals ∧ (∀ w ∈ ws, ∀ (a' : Array Value) (U : State), s.WarmedH U.vm → w.before a' U = true) ∧ Cond.codeWith y bytes maxL ret hh ∈ ws) ∧
  (Cond.codeWith y bytes maxL ret hh).before args s = true ∧ (Cond.initialized y.cls).before args s = true ∧ (y.cls ≠ "java/lang/invoke/MethodHandle" ∧ y.cls ≠ "java/lang/invoke/VarHandle") ∧
  (∀ sig, parseMethodDescriptor y.desc = some sig → n = sig.parameters.length) ∧ (Cond.methodLink own index y).before args s = true ∧ (Cond.instanceMethod y).before args s = true ∧ (Cond.selects C y y).before args s = true
theorem vx_cwVW {own C : String} {index maxL mc ms : Nat} {y : MethodName} {bytes : ByteArray} {ret : Option FieldType} {hh : List (Nat × Nat × Nat × Nat)} {Ts ws ws' : List Cond} {rm : Room} (n : Nat) (ht : ∀ w ∈ Ts, w.before args s = true) (hT : GoodIn Ts (wsV own index C y ws)) (hw : ws = Cond.codeWith y bytes maxL ret hh :: ws') (hrc : rm.cells = mc) (hrs : rm.slots = ms)
    (hd : y.cls = C ∧ y.cls ≠ "java/lang/invoke/MethodHandle" ∧ y.cls ≠ "java/lang/invoke/VarHandle" ∧ (parseMethodDescriptor y.desc).map (fun d => d.parameters.length) = some n) (hR : rm.frames + 1 ≤ R.frames ∧ 8 + (maxL + 11) + rm.locals ≤ R.locals) :
    vx_CVW R s args own C index y bytes maxL ret hh ws rm mc ms n := by
  obtain ⟨hC, hd⟩ := hd
  subst hC
  have ok : ∀ w ∈ wsV own index y.cls y ws, w.before args s = true := fun w h => ht w (hT w h).1
  have hG : GoodIn Ts ws := fun w h => hT w (by unfold wsV; exact List.mem_append_right _ h)
  have hc : Cond.codeWith y bytes maxL ret hh ∈ ws := by rw [hw]; exact List.mem_cons_self
  refine ⟨⟨hrc, hrs, hR.1, hR.2, pay_in ht hG, hc⟩, ht _ (hG _ hc).1, ok _ (by simp [wsV]), ⟨hd.1, hd.2.1⟩, fun sig h => ?_, ok _ (by simp [wsV]), ok _ (by simp [wsV]), ok _ (by simp [wsV])⟩
  have h2 := hd.2.2
  rw [h] at h2
  exact (Option.some.inj h2).symm
theorem vx_runVW {y : MethodName} {bytes cc : ByteArray} {maxL nL mc ms n index : Nat} {ret : Option FieldType} {hh : List (Nat × Nat × Nat × Nat)} {ws : List Cond} {rm : Room} {Pc : Array Value → State → Prop} {Qc : Array Value → State → Outcome → State → Prop} {free : Addr → Prop} {Ts : List Cond} {own C : String} {b : Addr} {As rest : List Value} {g : JFrame}
    (S : CallFix p m c cc nL s args Ts own) (hM : Met l y ws rm Pc Qc mc ms free) (cw : vx_CVW R s args own C index y bytes maxL ret hh ws rm mc ms n) (hp : PreV s H C b Pc As)
    (hg : g.method = m) (hn : As.length = n) (hsize : g.locals.size = nL) (hstack : g.stack = As.reverse ++ .ref b :: rest) (hW : 2 * g.monitorRoom + (rest.map fun v => v.category).sum ≤ 8) (hdg : decode cc g.pc = .ok (.invokevirtual index, 3)) (hf : cells + mc ≤ R.cells ∧ slots + ms ≤ R.slots) :
    va_Run p l e R s m args below meth c H locs cells slots mc ms g rest (Qc (Value.ref b :: As).toArray) free := by
  obtain ⟨⟨hrc, hrs, hfr, hlo, hws, hcw⟩, hcode, hini, hy, hlen, hl, hin, hse⟩ := cw
  have hK : Back l R p e below s args y 3 8 (PreOf R mc ms Pc) (PostOf Qc mc ms free) := va_backW (hh := hh) (bytes := bytes) (maxL := maxL) (ret := ret) hM hp.1 hrc hrs hfr hlo hws hcw (fun a' U hW => word_at hW (Or.inl (by first | rfl | simp [Cond.onTables, Cond.keeps, Cond.steady])) hini)
  obtain ⟨hx, hb, hml, ho, -⟩ := S
  obtain ⟨-, ⟨cellB, hcB, hoB, hclB⟩, hPc⟩ := hp
  intro T hT X
  obtain ⟨v, vm₁, ⟨U', l2, c2, s2⟩, hW₁, X', ⟨g', mk, t, L, e1, e2, hq, h1, hL, h2, h3⟩, st⟩ := vx_callVW X hx (C := C) (hh := hh) (bytes := bytes) (maxL := maxL) (ret := ret) ho hl hin hse hcode hy hK (by rw [hT]; exact hcB) hoB hclB hg (hsize.trans hml.symm) (argsL := As) (rest := rest) (fun sig h => hn.trans (hlen sig h)) hstack hW (by rw [hb]; exact hdg)
    (fun vm₁ hW₁ => ⟨hf.1, hf.2, hPc (T.setVm vm₁) hT hW₁⟩)
  dsimp only [Pt.U, Pt.locs, Pt.cells, Pt.slots] at X' e1 e2 h1 h2 h3 st
  subst h1; subst h2; subst h3
  exact ⟨v, (T.setVm vm₁).calling g' mk (Value.ref b :: As).toArray, t, U', L, hT, X', hL, e1, e2, hq, st⟩
section
variable {y : MethodName} {bytes cc : ByteArray} {maxL nL mc ms n index : Nat} {ret : Option FieldType} {ws : List Cond} {rm : Room} {Pc : Array Value → State → Prop} {Qc : Array Value → State → Outcome → State → Prop} {XC : String → State → State → Prop} {free : Addr → Prop} {Ts : List Cond} {own C : String} {b : Addr} {As rest : List Value} {g : JFrame}
theorem vx_runVX {hh : List (Nat × Nat × Nat × Nat)} (S : CallFix p m c cc nL s args Ts own) (hM : vx_Met l y ws rm Pc Qc XC mc ms free) (cw : vx_CVW R s args own C index y bytes maxL ret hh ws rm mc ms n) (hp : PreV s H C b Pc As)
    (hg : g.method = m) (hn : As.length = n) (hsize : g.locals.size = nL) (hstack : g.stack = As.reverse ++ .ref b :: rest) (hW : 2 * g.monitorRoom + (rest.map fun v => v.category).sum ≤ 8) (hdg : decode cc g.pc = .ok (.invokevirtual index, 3)) (hf : cells + mc ≤ R.cells ∧ slots + ms ≤ R.slots) :
    vx_Run p l e R s m args below meth c H locs cells slots mc ms g rest (Qc (Value.ref b :: As).toArray) XC free := by
  obtain ⟨⟨hrc, hrs, hfr, hlo, hws, hcw⟩, hcode, hini, hy, hlen, hl, hin, hse⟩ := cw
  have hK : vx_Back l R p e below s args y 3 8 (PreOf R mc ms Pc) (PostOf Qc mc ms free) (vx_Post XC mc ms free) := vx_backW (hh := hh) (bytes := bytes) (maxL := maxL) (ret := ret) hM hp.1 hrc hrs hfr hlo hws hcw (fun a' U hW => word_at hW (Or.inl (by first | rfl | simp [Cond.onTables, Cond.keeps, Cond.steady])) hini)
  obtain ⟨hx, hb, hml, ho, -⟩ := S
  obtain ⟨-, ⟨cellB, hcB, hoB, hclB⟩, hPc⟩ := hp
  intro T hT X
  rcases vx_callVX X hx (C := C) (hh := hh) (bytes := bytes) (maxL := maxL) (ret := ret) ho hl hin hse hcode hy hK (by rw [hT]; exact hcB) hoB hclB hg (hsize.trans hml.symm) (argsL := As) (rest := rest) (fun sig h => hn.trans (hlen sig h)) hstack hW (by rw [hb]; exact hdg)
    (fun vm₁ hW₁ => ⟨hf.1, hf.2, hPc (T.setVm vm₁) hT hW₁⟩) with ⟨v, vm₁, ⟨U', l2, c2, s2⟩, hW₁, X', ⟨g', mk, t, L, e1, e2, hq, h1, hL, h2, h3⟩, st⟩ | ⟨q, vm₁, ⟨U', l2, c2, s2⟩, hW₁, X', ⟨g', mk, t, L, E, ce, e1, e2, hq, hce, hcv, hcl, h1, hL, h2, h3⟩, st⟩
  · dsimp only [Pt.U, Pt.locs, Pt.cells, Pt.slots] at X' e1 e2 h1 h2 h3 st
    subst h1; subst h2; subst h3
    exact Or.inl ⟨v, (T.setVm vm₁).calling g' mk (Value.ref b :: As).toArray, t, U', L, hT, X', hL, e1, e2, hq, st⟩
  · dsimp only [Pt.U, Pt.locs, Pt.cells, Pt.slots] at X' e1 e2 h1 h2 h3 st hcl
    subst h1; subst h2; subst h3
    exact Or.inr ⟨q, (T.setVm vm₁).calling g' mk (Value.ref b :: As).toArray, t, U', L, E, ce, hT, X', hL, e1, e2, hq, hce, hcv, vx_cls hW₁ hcl, st⟩
theorem vx_runSX {hh : List (Nat × Nat × Nat × Nat)} (S : CallFix p m c cc nL s args Ts own) (hM : vx_Met l y ws rm Pc Qc XC mc ms free) (cw : vx_CSW R s args own index y bytes maxL ret hh ws rm mc ms n) (hp : PreS s H Pc As)
    (hg : g.method = m) (hn : As.length = n) (hsize : g.locals.size = nL) (hstack : g.stack = As.reverse ++ rest) (hW : 2 * g.monitorRoom + (rest.map fun v => v.category).sum ≤ 8) (hdg : decode cc g.pc = .ok (.invokestatic index, 3)) (hf : cells + mc ≤ R.cells ∧ slots + ms ≤ R.slots) :
    vx_Run p l e R s m args below meth c H locs cells slots mc ms g rest (Qc As.toArray) XC free := by
  obtain ⟨⟨hrc, hrs, hfr, hlo, hws, hcw⟩, hcode, hini, hy, hlen, hl, hstt⟩ := cw
  have hK : vx_Back l R p e below s args y 3 8 (PreOf R mc ms Pc) (PostOf Qc mc ms free) (vx_Post XC mc ms free) := vx_backW (hh := hh) (bytes := bytes) (maxL := maxL) (ret := ret) hM hp.1 hrc hrs hfr hlo hws hcw (fun a' U hW => word_at hW (Or.inl (by first | rfl | simp [Cond.onTables, Cond.keeps, Cond.steady])) hini)
  obtain ⟨hx, hb, hml, ho, -⟩ := S
  intro T hT X
  rcases vx_callSX X hx (hh := hh) (bytes := bytes) (maxL := maxL) (ret := ret) ho hl hstt hini hcode hy hK hg (hsize.trans hml.symm) (argsL := As) (rest := rest) (fun sig h => hn.trans (hlen sig h)) hstack hW (by rw [hb]; exact hdg)
    (fun vm₁ hW₁ => ⟨hf.1, hf.2, hp.2 (T.setVm vm₁) hT hW₁⟩) with ⟨v, vm₁, ⟨U', l2, c2, s2⟩, hW₁, X', ⟨g', mk, t, L, e1, e2, hq, h1, hL, h2, h3⟩, st⟩ | ⟨q, vm₁, ⟨U', l2, c2, s2⟩, hW₁, X', ⟨g', mk, t, L, E, ce, e1, e2, hq, hce, hcv, hcl, h1, hL, h2, h3⟩, st⟩
  · dsimp only [Pt.U, Pt.locs, Pt.cells, Pt.slots] at X' e1 e2 h1 h2 h3 st
    subst h1; subst h2; subst h3
    exact Or.inl ⟨v, (T.setVm vm₁).calling g' mk As.toArray, t, U', L, hT, X', hL, e1, e2, hq, st⟩
  · dsimp only [Pt.U, Pt.locs, Pt.cells, Pt.slots] at X' e1 e2 h1 h2 h3 st hcl
    subst h1; subst h2; subst h3
    exact Or.inr ⟨q, (T.setVm vm₁).calling g' mk As.toArray, t, U', L, E, ce, hT, X', hL, e1, e2, hq, hce, hcv, vx_cls hW₁ hcl, st⟩
end
end VXH
theorem vx_ofWH {l : Launch} {y : MethodName} {ws ws' : List Cond} {rm : Room} {Pc : Array Value → State → Prop} {Qc : Array Value → State → Outcome → State → Prop} {XC : String → State → State → Prop} {mc ms : Nat} {free : Addr → Prop} {cc : ByteArray} {maxL : Nat} {ret : Option FieldType} {hh : List (Nat × Nat × Nat × Nat)}
    (hy : plainName y.cls = true) (hw : ws = Cond.codeWith y cc maxL ret hh :: ws')
    (body : ∀ p e s m args below meth c s₁, BodyLoose p l y (headSpec ws rm) cc maxL ret e s m args below meth c s₁ → c.maxLocals = maxL → Pc args s →
      W p l e (headSpec ws rm).room s m args below meth c s.heap [] 0 0 (vx_MQ below Qc XC args s mc ms free) (entryFrame m args maxL)) : vx_Met l y ws rm Pc Qc XC mc ms free := by
  refine MetFree.of_bodyS (code := cc) (maxLocals := maxL) (ret := ret) hy ?_ ?_
  · intro args s m h hn
    obtain ⟨m9, meth, c, hn9, h1, h2, h3, h4, -, h5, h6, -⟩ := Cond.codeWith_spec (atoms_spec (ws := ws) h _ (by rw [hw]; exact List.mem_cons_self))
    cases hn.symm.trans hn9
    exact ⟨meth, c, h1, h2, h3, h4, h5, h6⟩
  · intro p e s m args below meth c s₁ B hml hP _
    have hh0 : s₁.heap = s.heap := by rw [B.state]; rfl
    obtain ⟨t, a1, o, b1, b2, b3⟩ := body p e s m args below meth c s₁ B hml hP s₁ hh0 (Stand.of_body B)
    exact ⟨t, o, a1, b1, b2, b3⟩
/-! ===== END ===== -/

/-! ===== BEGIN what the machine throws by itself, no traces kept ===== -/
section VXM
set_option maxHeartbeats 1000000 in
/-- the machine throws cls with the message text, no traces kept: from its note over the frame g to 'throwing' over the same frame (follows the proofs of Stand.vmThrowsMessage, Shelf/KitTracedVmS.lean, and Stand.throwsMessageColdBareV, StandMessageColdV.lean, without the step out of the frame) -/
theorem vx_vmAt {p : Program} {l : Launch} {e : Env} {R : Room} {s : State} {m₀ : MethodId} {args : Array Value} {below : List Frame} {meth : Method} {c : Code} {W : State} {locs : List Loc} {cells slots : Nat}
    (X : Stand p l e R s m₀ args below meth c W locs cells slots) (hexec : p.tables.exec = Jvm.exec) (htr : e.platform.stackTraces = false) {cls : String} {names : List String} {text : String}
    (hcls : Bundle.fit cls = true) (hnames : ∀ n ∈ names, Bundle.fit n = true) (hsoe : (cls == "java/lang/StackOverflowError") = false) (hoom : (cls == "java/lang/OutOfMemoryError") = false)
    (h : ∀ a ∈ Bundle.messageArmAtoms cls names, a.before args s = true)
    (hlocs : ∀ x ∈ locs, ∀ cell, s.heap[x.base]? = some cell → cell.vm.isStatics = false)
    (htext : (text == notModelled) = false) (hlimit : ¬ (stringBytes (stringToUtf16 text)).size > e.platform.arrayLengthLimit) (hheap : ¬ (stringBytes (stringToUtf16 text)).size * componentBytes .byte > e.platform.maxHeapBytes)
    {g : JFrame} (hg : g.method = m₀) (hsize : g.locals.size = c.maxLocals)
    (hRframes : names.length + 4 < R.frames) (hRlocals : 2 * g.monitorRoom + (g.stack.map fun v => v.category).sum + 10240 ≤ R.locals) (hshort : 13 * names.length + 55 ≤ 10240)
    (hRcells : cells + 3 ≤ R.cells) (hRslots : slots + ((stringBytes (stringToUtf16 text)).size + 4 + 6) ≤ R.slots) (hlocks : meth.locks = false) :
    ∃ (S : State) (q : Addr) (ce : Cell), (∀ target, Steps p.tables e below ((S.setTop g).pushFrame (.throwing q)) target → Steps p.tables e below ((W.setTop g).pushFrame (.throwNew cls (some text) none)) target) ∧
      Stand p l e R s m₀ args below meth c S locs (cells + 3) (slots + ((stringBytes (stringToUtf16 text)).size + 4 + 6)) ∧ S.heap[q]? = some ce ∧ s.vm.findClass cls = some ce.cls ∧ ce.vm = .none := by
  have howns : e.platform.frameOwnsMonitors = true := by rw [X.admits.platform]
  have hfin : e.platform.finalization = false := by rw [X.admits.platform]
  have hpl : e.platform.magicAccessors = ({} : Platform).magicAccessors := by rw [X.admits.platform]
  have a : ∀ x, x ∈ Bundle.messageArmAtoms cls names → x.holds args s none s [] = true := fun x hx => h x hx
  obtain ⟨T, Z0, L, -, Y⟩ := ThrowableC.of_atoms (args := args) howns hfin hpl (fun x hx => h x (by simp [Bundle.messageArmAtoms, hx]))
  obtain ⟨Z, M, LZ, LM, hnZ⟩ := Init0T.ofS_atoms (args := args) hpl L Y (fun x hx => h x (by simp [Bundle.messageArmAtoms, hx]))
  obtain ⟨P1, Ps, hlen, L1, hL, hP1m, hlink1, hlink⟩ := Bundle.chainS (args := args) hpl hnZ names cls hcls hnames (fun x hx => h x (by simp [Bundle.messageArmAtoms, hx]))
  obtain ⟨Zs, LZs, hn4, hfitv, hfitc⟩ := StringT.of_atoms (args := args) (fun x hx => h x (by simp [Bundle.messageArmAtoms, hx]))
  have hfound : s.vm.findClass cls = some P1.m.cls := findClass_of_methodNamed hP1m
  obtain ⟨c1, kX, hc1, hk, hord, -, -, hn6⟩ := Cond.instantiable_spec (a (.instantiable cls 6) (by simp [Bundle.messageArmAtoms]))
  cases Option.some.inj (hc1.symm.trans hfound)
  have hinit := Cond.initialized_spec hfound hk (a (.initialized cls) (by simp [Bundle.messageArmAtoms]))
  have hctor : kX.findMethod "<init>" "(Ljava/lang/String;)V" = some P1.m.idx := findMethod_of_methodNamed hP1m hk
  have hsel0 : selectMethod e.platform s.vm P1.m.cls T.fill0 = .method T.fill0 := by
    obtain ⟨c2, r2, m2, q1, q2, q3, q4, -⟩ := Cond.selects_spec (a (.selects cls Bundle.tFill0 Bundle.tFill0) (by simp [Bundle.messageArmAtoms]))
    cases Option.some.inj (q1.symm.trans hfound)
    cases Option.some.inj (q2.symm.trans (State.methodFound?_of_named Y.fill0 (by decide)))
    cases Option.some.inj (q3.symm.trans Y.fill0)
    rw [Launch.admits_selectMethod X.admits]; exact q4
  have hselF : selectMethod e.platform s.vm P1.m.cls T.fill = .method T.fill := by
    obtain ⟨c2, r2, m2, q1, q2, q3, q4, -⟩ := Cond.selects_spec (a (.selects cls Bundle.tFill Bundle.tFill) (by simp [Bundle.messageArmAtoms]))
    cases Option.some.inj (q1.symm.trans hfound)
    cases Option.some.inj (q2.symm.trans (State.methodFound?_of_named Y.fill (by decide)))
    cases Option.some.inj (q3.symm.trans Y.fill)
    rw [Launch.admits_selectMethod X.admits]; exact q4
  obtain ⟨cellS0, hcS0, hiss⟩ := Y.statics
  obtain ⟨u0, hu0⟩ := Cond.staticRefV Y.unassigned L.unassignedStatic L.statics hcS0 hiss (a (.isRef (.static Bundle.tN "UNASSIGNED_STACK" Bundle.steD)) (by simp [Bundle.messageArmAtoms]))
  obtain ⟨sen, hsen⟩ := Cond.staticRefV Y.sentinel L.sentinelStatic L.statics hcS0 hiss (a (.isRef (.static Bundle.tN "SUPPRESSED_SENTINEL" Bundle.listD)) (by simp [Bundle.messageArmAtoms]))
  obtain ⟨ci198, i198, fB, hk198, hg198, ha198, hsB, -, hnB, htB, hffB⟩ := Cond.ownField (t := .object "java/lang/Object") Y.found L.cls (by decide +kernel) (a (.fieldLink Bundle.tN 198 Bundle.tN "backtrace" "Ljava/lang/Object;") (by simp [Bundle.messageArmAtoms])) (a (.lays Bundle.tN Bundle.tN "backtrace" "Ljava/lang/Object;") (by simp [Bundle.messageArmAtoms])) e.platform hpl
  obtain ⟨cellS, hcS', heS, -, hkeep⟩ := X.same.2.2.2.2.2 T.aS cellS0 hcS0
  have hcellS : W.heap[T.aS]? = some cellS := hcS'
  have hout' : ∀ i, (⟨T.aS, i⟩ : Loc) ∉ locs := fun i hmem => by
    have := hlocs _ hmem cellS0 hcS0
    rw [hiss] at this; cases this
  have hknownS : cellS.vm ≠ .unknown := by
    rw [heS]; intro hu
    rw [show cellS0.vm = .unknown from hu] at hiss
    cases hiss
  have hvU : cellS.slots[T.fUnassigned.slot]? = some u0.v := by rw [hkeep _ (hout' _)]; exact hu0
  have hvSen : cellS.slots[T.fSentinel.slot]? = some sen.v := by rw [hkeep _ (hout' _)]; exact hsen
  obtain ⟨iM, hffM⟩ := Y.msg
  obtain ⟨tyC, dC, hdC, hdnC⟩ := Cond.laysAt hfound hk Y.cause (a (.lays cls Bundle.tN "cause" "Ljava/lang/Throwable;") (by simp [Bundle.messageArmAtoms]))
  obtain ⟨tyS, dS, hdS, hdnS⟩ := Cond.laysAt hfound hk Y.stack (a (.lays cls Bundle.tN "stackTrace" Bundle.steD) (by simp [Bundle.messageArmAtoms]))
  obtain ⟨tyP, dP, hdP, hdnP⟩ := Cond.laysAt hfound hk Y.supp (a (.lays cls Bundle.tN "suppressedExceptions" Bundle.listD) (by simp [Bundle.messageArmAtoms]))
  obtain ⟨tyM, dM, hdM, hdnM⟩ := Cond.laysAt hfound hk hffM (a (.lays cls Bundle.tN "detailMessage" "Ljava/lang/String;") (by simp [Bundle.messageArmAtoms]))
  obtain ⟨tyB, dB, hdB, hdnB⟩ := Cond.laysAt hfound hk hffB (a (.lays cls Bundle.tN "backtrace" "Ljava/lang/Object;") (by simp [Bundle.messageArmAtoms]))
  have bC := Cond.laysApart hdB hdC hdnB hdnC (by rw [hnB, Y.causeName]; decide)
  have bS := Cond.laysApart hdB hdS hdnB hdnS (by rw [hnB, Y.stackName]; decide)
  have bP := Cond.laysApart hdB hdP hdnB hdnP (by rw [hnB, Y.suppName]; decide)
  have hbk : ((preparedCellV T.toThrowableT (freshCell P1.m.cls kX) (W.heap.size + 2) u0 sen).withEntry W.cur).slots[fB.slot]? = some .null := by
    have := fresh_default (c := P1.m.cls) tyB
    rw [htB] at this
    simpa [preparedCellV, Cell.setSlot, Cell.withEntry, Array.getElem?_setIfInBounds, bC, bS, bP, bC.symm, bS.symm, bP.symm, defaultValue] using this
  have tkC := Takes.of_laid (v := .ref (W.heap.size + 2)) hk hord tyC (by rw [Y.causeType]; rfl)
  have tkS := Takes.of_laid (v := u0.v) hk hord tyS (by rw [Y.stackType]; exact fits_refV_array _ u0)
  have tkP := Takes.of_laid (v := sen.v) hk hord tyP (by rw [Y.suppType]; exact fits_refV_object _ sen)
  have tkM := Takes.of_laid (v := .ref (W.heap.size + 1)) hk hord tyM (by rw [Y.msgType]; rfl)
  have hskip : SkipFacts T e.platform s (fun u => u) u0 ((preparedCellV T.toThrowableT (freshCell P1.m.cls kX) (W.heap.size + 2) u0 sen).withEntry W.cur) := ⟨{ ci198 := ci198, i198 := i198, fBack := fB }, ⟨hk198, hg198, ha198, hsB⟩, hbk, fun _ _ => rfl⟩
  have h0 : At W g.method c below := by rw [hg]; exact X.here
  obtain ⟨hbeyond, hfreeW⟩ := X.vmMayThrow hsize (.throwNew cls (some text) none) (fun f hf => by cases hf) rfl hRlocals
  have hfr' : W.frames.length + Ps.length + 4 < (e.platform.stackLimits W.me).1 := by have := X.framesAbove hRframes; omega
  have hwd' : (stackUse (.java g :: W.frames.tail)).2 + 13 * Ps.length + 55 ≤ (e.platform.stackLimits W.me).2 := by have := X.stackAbove hsize (K := 13 * Ps.length + 55) (by omega); omega
  have hslots : W.slotsUsed + (stringBytes (stringToUtf16 text)).size + Zs.kS.instanceTypes.size + kX.instanceTypes.size ≤ e.platform.maxSlots := by
    have := X.slotsAbove hRslots
    rw [hn4, hn6]
    omega
  obtain ⟨vm', hW', st⟩ := Steps.vmThrowsMessageColdByV p (s₀ := s) (S := W) (g := g) h0 hexec T L Z LZ M LM X.warmed (t := W.cur) rfl Zs LZs P1 L1 Ps hL hlink1 hlink hsoe hoom hfound hk hinit hord hctor
    (Launch.admits_hotImplicitExceptions X.admits) hbeyond hfreeW htext hlimit hheap (X.cellsAbove hRcells) hslots (hfitv _) (hfitc _)
    (Nn := fun u => u) heapOnly_id (fun _ _ => rfl) (fun _ => rfl) (fun u x y => setCell_twice _ _ _ _) (fun _ => Nat.le_refl _) (cN := ((preparedCellV T.toThrowableT (freshCell P1.m.cls kX) (W.heap.size + 2) u0 sen).withEntry W.cur))
    hsel0 hcellS hknownS hvU tkS (fun _ hu => hu) (fun _ hu => hu) rfl rfl rfl (by simp [preparedCellV, Cell.setSlot, Cell.withEntry]) hskip (fun _ _ hA hW _ hroom _ hrest => L.nativeOff p htr hA hW hroom hrest) hselF hvSen tkC tkP tkM Y.objLocals rfl hfr' hwd'
  rw [plainBareV_eq T.toThrowableT (W.heap.size + 2) u0 sen (.ref (W.heap.size + 1)) W.cur rfl rfl] at st
  obtain ⟨-, -, w3, w4, -, -, -⟩ := withThrown_facts e.platform W Zs text P1.m.cls kX
  have X3 := ((X.pushed (bytesOf Zs.cB (stringToUtf16 text))).pushed (stringAt Zs.cS Zs.kS Zs.fv Zs.fc (stringToUtf16 text) W.heap.size)).pushed (freshCell P1.m.cls kX)
  rw [← withString_eq] at X3
  have X4 := X3.noted hW'
  have ha : (W.heap.size + 2) < ((withThrown W Zs text P1.m.cls kX).setVm vm').heap.size := by show _ < (withThrown W Zs text P1.m.cls kX).heap.size; rw [w3]; omega
  have hcell : ((withThrown W Zs text P1.m.cls kX).setVm vm').heap[(W.heap.size + 2)]? = some (freshCell P1.m.cls kX) := w4
  have X5 := ((((X4.stored hcell T.fCause.slot (.ref (W.heap.size + 2))).storedAgain ha T.fStack.slot u0.v).storedAgain ha T.fSupp.slot sen.v).storedAgain ha T.fStack.slot u0.v).storedAgain ha T.fMsg.slot (.ref (W.heap.size + 1))
  obtain ⟨g₁, hfrM⟩ := X5.frames_eq
  have hU : ((((withThrown W Zs text P1.m.cls kX).setVm vm').setCell (W.heap.size + 2) (plainBareV T.toThrowableT (freshCell P1.m.cls kX) (W.heap.size + 2) u0 sen (.ref (W.heap.size + 1)))).setTop g).pushFrame (.throwing (W.heap.size + 2)) = (((withThrown W Zs text P1.m.cls kX).setVm vm').setCell (W.heap.size + 2) (plainBareV T.toThrowableT (freshCell P1.m.cls kX) (W.heap.size + 2) u0 sen (.ref (W.heap.size + 1)))).setFrames (.throwing (W.heap.size + 2) :: .java g :: below) := by
    rw [State.pushFrame, State.frames_setTop _ hfrM, State.setTop_of_frames _ hfrM, State.setFrames_setFrames]
  have b1 : (bytesOf Zs.cB (stringToUtf16 text)).slots.size = (stringBytes (stringToUtf16 text)).size := by
    rw [(Cell.writeAll_facts _ _).2.2]; simp [bytes0]
  have b2 : (stringAt Zs.cS Zs.kS Zs.fv Zs.fc (stringToUtf16 text) W.heap.size).slots.size = 4 := by simp [string0, Cell.setSlot, hn4]
  have b3 : (freshCell P1.m.cls kX).slots.size = 6 := by simp [hn6]
  rw [b1, b2, b3] at X5
  have e9 : slots + (stringBytes (stringToUtf16 text)).size + 4 + 6 = slots + ((stringBytes (stringToUtf16 text)).size + 4 + 6) := by omega
  rw [e9] at X5
  simp only [List.append_assoc, List.cons_append, List.nil_append] at X5
  refine ⟨((withThrown W Zs text P1.m.cls kX).setVm vm').setCell (W.heap.size + 2) (plainBareV T.toThrowableT (freshCell P1.m.cls kX) (W.heap.size + 2) u0 sen (.ref (W.heap.size + 1))), W.heap.size + 2, _, fun target ht => st _ (by rw [X.tail, ← hU]; exact ht),
    X5.forget (fun y hy => ?_), heapAt_setCell_self _ ha, hfound, rfl⟩
  simp only [List.mem_cons, List.not_mem_nil, or_false] at hy
  have hge : s.heap.size ≤ W.heap.size := X.same.2.1
  rcases hy with rfl | rfl | rfl | rfl | rfl <;> exact Nat.le_trans hge (Nat.le_add_right _ 2)
set_option maxHeartbeats 1000000 in
/-- the machine throws NullPointerException, no traces kept: from its note over the frame g to 'throwing' over the same frame (follows the proof of Stand.vmThrowsNpe, Shelf42/KT2.lean; throwsNpeColdBareVAt, Shelf42/NT91.lean, called) -/
theorem vx_npeAt {p : Program} {l : Launch} {e : Env} {R : Room} {s : State} {m₀ : MethodId} {args : Array Value} {below : List Frame} {meth : Method} {c : Code} {W : State} {locs : List Loc} {cells slots : Nat}
    (X : Stand p l e R s m₀ args below meth c W locs cells slots) (hexec : p.tables.exec = Jvm.exec) (htr : e.platform.stackTraces = false) {n : Nat}
    (h : ∀ a ∈ Bundle.npeArmAtoms n, a.before args s = true)
    (hlocs : ∀ x ∈ locs, ∀ cell, s.heap[x.base]? = some cell → cell.vm.isStatics = false)
    {g : JFrame} (hg : g.method = m₀) (hsize : g.locals.size = c.maxLocals)
    (hRframes : 7 < R.frames) (hRlocals : 2 * g.monitorRoom + (g.stack.map fun v => v.category).sum + 10240 ≤ R.locals)
    (hRcells : cells + 1 ≤ R.cells) (hRslots : slots + n ≤ R.slots) (hlocks : meth.locks = false) :
    ∃ (S : State) (q : Addr) (ce : Cell), (∀ target, Steps p.tables e below ((S.setTop g).pushFrame (.throwing q)) target → Steps p.tables e below ((W.setTop g).pushFrame (.throwNew "java/lang/NullPointerException" none none)) target) ∧
      Stand p l e R s m₀ args below meth c S locs (cells + 1) (slots + n) ∧ S.heap[q]? = some ce ∧ s.vm.findClass "java/lang/NullPointerException" = some ce.cls ∧ ce.vm = .none := by
  have howns : e.platform.frameOwnsMonitors = true := by rw [X.admits.platform]
  have hfin : e.platform.finalization = false := by rw [X.admits.platform]
  have hpl : e.platform.magicAccessors = ({} : Platform).magicAccessors := by rw [X.admits.platform]
  have hpl2 : e.platform.arrayCloneIsPublic = true := by rw [X.admits.platform]
  have a' : ∀ x, x ∈ Bundle.npeArmAtoms n → x.holds args s none s [] = true := fun x hx => h x hx
  obtain ⟨T, Z, L, LZ, Y⟩ := ThrowableC.of_atoms (args := args) howns hfin hpl (fun x hx => h x (by simp [Bundle.npeArmAtoms, hx]))
  obtain ⟨N, LN, hcN, hnNF, hordN, hffS⟩ := NpeC.of_atoms (args := args) hpl hpl2 L Y (fun x hx => h x (by simp [Bundle.npeArmAtoms, hx]))
  obtain ⟨P1, L1, hP1m, hP1s⟩ := PassC.of_atoms (args := args) (s := s) hpl (X := Bundle.nN) (Y := Bundle.rN) (by decide) (by decide) LibCode.NullPointerException.Init0.at_0 LibCode.NullPointerException.Init0.at_1 LibCode.NullPointerException.Init0.at_4 (fun x hx => h x (by simp [Bundle.npeArmAtoms, hx]))
  obtain ⟨PR, LR, hPRm, hPRs⟩ := PassC.of_atoms (args := args) (s := s) hpl (X := Bundle.rN) (Y := Bundle.eN) (by decide) (by decide) LibCode.RuntimeException.Init0.at_0 LibCode.RuntimeException.Init0.at_1 LibCode.RuntimeException.Init0.at_4 (fun x hx => h x (by simp [Bundle.npeArmAtoms, hx]))
  obtain ⟨PE, LEx, hPEm, hPEs⟩ := PassC.of_atoms (args := args) (s := s) hpl (X := Bundle.eN) (Y := Bundle.tN) (by decide) (by decide) LibCode.Exception.Init0.at_0 LibCode.Exception.Init0.at_1 LibCode.Exception.Init0.at_4 (fun x hx => h x (by simp [Bundle.npeArmAtoms, hx]))
  have hfound : s.vm.findClass Bundle.nN = some P1.m.cls := findClass_of_methodNamed hP1m
  have ecls : N.cN = P1.m.cls := Option.some.inj (hcN.symm.trans hfound)
  have hk : s.vm.classes[P1.m.cls]? = some N.kN := by rw [← ecls]; exact LN.cls
  have hinit := Cond.initialized_spec hfound hk (a' (.initialized Bundle.nN) (by simp [Bundle.npeArmAtoms]))
  have hctor : N.kN.findMethod "<init>" "()V" = some P1.m.idx := findMethod_of_methodNamed hP1m hk
  obtain ⟨c1, k1, hc1, hk1, -, -, -, hn⟩ := Cond.instantiable_spec (a' (.instantiable Bundle.nN n) (by simp [Bundle.npeArmAtoms]))
  cases Option.some.inj (hc1.symm.trans hfound)
  cases Option.some.inj (hk1.symm.trans hk)
  have hfsz : (freshCell P1.m.cls N.kN).slots.size = n := by simp [hn]
  have hlink1 : P1.sup = PR.m := Option.some.inj (hP1s.symm.trans hPRm)
  have hlinkR : PR.sup = PE.m := Option.some.inj (hPRs.symm.trans hPEm)
  have hlinkE : PE.sup = Z.m T.toThrowableT := Option.some.inj (hPEs.symm.trans Y.init0)
  have hLs : ∀ P, P ∈ [PR, PE] → P.Links0 e.platform s := fun P hP => by
    simp only [List.mem_cons, List.not_mem_nil, or_false] at hP
    rcases hP with rfl | rfl
    · exact LR
    · exact LEx
  have hsel0 : selectMethod e.platform s.vm P1.m.cls T.fill0 = .method T.fill0 := by
    obtain ⟨c2, r2, m2, q1, q2, q3, q4, -⟩ := Cond.selects_spec (a' (.selects Bundle.nN Bundle.tFill0 Bundle.tFill0) (by simp [Bundle.npeArmAtoms]))
    cases Option.some.inj (q1.symm.trans hfound)
    cases Option.some.inj (q2.symm.trans (State.methodFound?_of_named Y.fill0 (by decide)))
    cases Option.some.inj (q3.symm.trans Y.fill0)
    rw [Launch.admits_selectMethod X.admits]; exact q4
  have hselF : selectMethod e.platform s.vm P1.m.cls T.fill = .method N.fill := by
    obtain ⟨c2, r2, m2, q1, q2, q3, q4, -⟩ := Cond.selects_spec (a' (.selects Bundle.nN Bundle.tFill Bundle.nFill) (by simp [Bundle.npeArmAtoms]))
    cases Option.some.inj (q1.symm.trans hfound)
    cases Option.some.inj (q2.symm.trans (State.methodFound?_of_named Y.fill (by decide)))
    cases Option.some.inj (q3.symm.trans hnNF)
    rw [Launch.admits_selectMethod X.admits]; exact q4
  obtain ⟨cellS0, hcS0, hiss⟩ := Y.statics
  obtain ⟨u0, hu0⟩ := Cond.staticRefV Y.unassigned L.unassignedStatic L.statics hcS0 hiss (a' (.isRef (.static Bundle.tN "UNASSIGNED_STACK" Bundle.steD)) (by simp [Bundle.npeArmAtoms]))
  obtain ⟨sen, hsen⟩ := Cond.staticRefV Y.sentinel L.sentinelStatic L.statics hcS0 hiss (a' (.isRef (.static Bundle.tN "SUPPRESSED_SENTINEL" Bundle.listD)) (by simp [Bundle.npeArmAtoms]))
  obtain ⟨ci198, i198, fB, hk198, hg198, ha198, hsB, -, hnB, htB, hffB⟩ := Cond.ownField (t := .object "java/lang/Object") Y.found L.cls (by decide +kernel) (a' (.fieldLink Bundle.tN 198 Bundle.tN "backtrace" Bundle.objD) (by simp [Bundle.npeArmAtoms])) (a' (.lays Bundle.tN Bundle.tN "backtrace" Bundle.objD) (by simp [Bundle.npeArmAtoms])) e.platform hpl
  obtain ⟨cellS, hcS', heS, -, hkeep⟩ := X.same.2.2.2.2.2 T.aS cellS0 hcS0
  have hcellS : W.heap[T.aS]? = some cellS := hcS'
  have hout' : ∀ i, (⟨T.aS, i⟩ : Loc) ∉ locs := fun i hmem => by
    have := hlocs _ hmem cellS0 hcS0
    rw [hiss] at this; cases this
  have hknownS : cellS.vm ≠ .unknown := by
    rw [heS]; intro hu
    rw [show cellS0.vm = .unknown from hu] at hiss
    cases hiss
  have hvU : cellS.slots[T.fUnassigned.slot]? = some u0.v := by rw [hkeep _ (hout' _)]; exact hu0
  have hvSen : cellS.slots[T.fSentinel.slot]? = some sen.v := by rw [hkeep _ (hout' _)]; exact hsen
  obtain ⟨tyC, dC, hdC, hdnC⟩ := Cond.laysAt hfound hk Y.cause (a' (.lays Bundle.nN Bundle.tN "cause" "Ljava/lang/Throwable;") (by simp [Bundle.npeArmAtoms]))
  obtain ⟨tyS, dS, hdS, hdnS⟩ := Cond.laysAt hfound hk Y.stack (a' (.lays Bundle.nN Bundle.tN "stackTrace" Bundle.steD) (by simp [Bundle.npeArmAtoms]))
  obtain ⟨tyP, dP, hdP, hdnP⟩ := Cond.laysAt hfound hk Y.supp (a' (.lays Bundle.nN Bundle.tN "suppressedExceptions" Bundle.listD) (by simp [Bundle.npeArmAtoms]))
  obtain ⟨tyX, dX, hdX, hdnX⟩ := Cond.laysAt hfound hk hffS (a' (.lays Bundle.nN Bundle.nN "extendedMessageState" "I") (by simp [Bundle.npeArmAtoms, Bundle.npeAtoms]))
  obtain ⟨hnX, htX⟩ := State.fieldFound?_type hffS (t := .int) (by decide +kernel)
  have xC := Cond.laysApart hdC hdX hdnC hdnX (by rw [hnX, Y.causeName]; decide)
  have xS := Cond.laysApart hdS hdX hdnS hdnX (by rw [hnX, Y.stackName]; decide)
  have xP := Cond.laysApart hdP hdX hdnP hdnX (by rw [hnX, Y.suppName]; decide)
  have hv0 : (freshCell P1.m.cls N.kN).slots[N.fState.slot]? = some (.int 0) := by
    have := fresh_default (c := P1.m.cls) tyX
    rw [htX] at this; exact this
  obtain ⟨tyB, dB, hdB, hdnB⟩ := Cond.laysAt hfound hk hffB (a' (.lays Bundle.nN Bundle.tN "backtrace" Bundle.objD) (by simp [Bundle.npeArmAtoms]))
  have bC := Cond.laysApart hdB hdC hdnB hdnC (by rw [hnB, Y.causeName]; decide)
  have bS := Cond.laysApart hdB hdS hdnB hdnS (by rw [hnB, Y.stackName]; decide)
  have bP := Cond.laysApart hdB hdP hdnB hdnP (by rw [hnB, Y.suppName]; decide)
  have bX := Cond.laysApart hdB hdX hdnB hdnX (by rw [hnB, hnX]; decide)
  have hbk : ((npeCell N.toNpeT (preparedCellV T.toThrowableT (freshCell P1.m.cls N.kN) W.heap.size u0 sen) W.cur).withEntry W.cur).slots[fB.slot]? = some .null := by
    have := fresh_default (c := P1.m.cls) tyB
    rw [htB] at this
    simpa [npeCell, preparedCellV, Cell.setSlot, Cell.withEntry, Array.getElem?_setIfInBounds, bC, bS, bP, bX, bC.symm, bS.symm, bP.symm, bX.symm, defaultValue] using this
  have tkC := Takes.of_laid (v := .ref W.heap.size) hk hordN tyC (by rw [Y.causeType]; rfl)
  have tkS := Takes.of_laid (v := u0.v) hk hordN tyS (by rw [Y.stackType]; exact fits_refV_array _ u0)
  have tkP := Takes.of_laid (v := sen.v) hk hordN tyP (by rw [Y.suppType]; exact fits_refV_object _ sen)
  have tkX := Takes.of_laid (v := .int 1) hk hordN tyX (by rw [htX]; rfl)
  have hskip : SkipFacts T e.platform s (fun u => u) u0 ((npeCell N.toNpeT (preparedCellV T.toThrowableT (freshCell P1.m.cls N.kN) W.heap.size u0 sen) W.cur).withEntry W.cur) := ⟨{ ci198 := ci198, i198 := i198, fBack := fB }, ⟨hk198, hg198, ha198, hsB⟩, hbk, fun _ _ => rfl⟩
  obtain ⟨vm', X3, st, -⟩ := X.throwsNpeColdBareVAt hexec hg hsize T L Z LZ N LN P1 L1 [PR, PE] hLs hlink1 ⟨hlinkR, hlinkE, trivial⟩ hfound hk hinit hordN hctor hsel0 hselF hcellS hknownS hvU hvSen
    hv0 xC xS xP tkC tkS tkP tkX Y.objLocals hskip (fun _ _ hA hW _ hroom _ hrest => L.nativeOff p htr hA hW hroom hrest) (by simpa using hRframes) hRlocals (by simp) hRcells (by rw [hn]; exact hRslots)
  have hlt : W.heap.size < ((W.pushCell (freshCell P1.m.cls N.kN)).setVm vm').heap.size := by
    show W.heap.size < (W.pushCell (freshCell P1.m.cls N.kN)).heap.size
    rw [State.heap_size_pushCell]; omega
  rw [hfsz] at X3
  obtain ⟨g₁, hfrM⟩ := X3.frames_eq
  have hU : ((((W.pushCell (freshCell P1.m.cls N.kN)).setVm vm').setCell W.heap.size (npeBareV T.toThrowableT N.toNpeT (freshCell P1.m.cls N.kN) W.heap.size u0 sen)).setTop g).pushFrame (.throwing W.heap.size) = (((W.pushCell (freshCell P1.m.cls N.kN)).setVm vm').setCell W.heap.size (npeBareV T.toThrowableT N.toNpeT (freshCell P1.m.cls N.kN) W.heap.size u0 sen)).setFrames (.throwing W.heap.size :: .java g :: below) := by
    rw [State.pushFrame, State.frames_setTop _ hfrM, State.setTop_of_frames _ hfrM, State.setFrames_setFrames]
  refine ⟨_, W.heap.size, _, fun target ht => st.trans (by rw [← hU]; exact ht), X3.forget (fun y hy => ?_), heapAt_setCell_self _ hlt, hfound, rfl⟩
  simp only [List.mem_cons, List.not_mem_nil, or_false] at hy
  have hge : s.heap.size ≤ W.heap.size := X.same.2.1
  rcases hy with rfl | rfl | rfl | rfl | rfl <;> exact hge
/-- the words of a machine's NullPointerException, but the four that speak of the heap -/
def vx_atN (n : Nat) : List Cond := (Bundle.npeArmAtoms n).filter vx_no
/-- the words of a machine's throw with a message, but the four that speak of the heap -/
def vx_atM (X : String) (names : List String) : List Cond := (Bundle.messageArmAtoms X names).filter vx_no
section
variable {p : Program} {l : Launch} {e : Env} {R : Room} {s : State} {m : MethodId} {args : Array Value} {below : List Frame} {meth : Method} {c : Code} {H : Heap} {locs : List Loc} {cells slots : Nat}
/-- a frame seen from a rebased start, seen from the first start again -/
theorem vx_back9 {T S : State} {R' : Room} {k n : Nat} (X : Stand p l e R s m args below meth c T locs cells slots) (Y : Stand p l e R' ((T.setVm s.vm).setFrames (.invoking m args :: below)) m args below meth c T [] 0 0) (Z : Stand p l e R' ((T.setVm s.vm).setFrames (.invoking m args :: below)) m args below meth c S [] k n) :
    Stand p l e R s m args below meth c S locs (cells + k) (slots + n) := by
  have hW0 : s.WarmedH ((T.setVm s.vm).setFrames (.invoking m args :: below)).vm := State.WarmedH.refl s
  refine { admits := X.admits, cas := X.cas, clock := X.clock, frames := X.frames, room := X.room, hears := X.hears, method := X.method, code := X.code, here := Z.here, tail := Z.tail, warmed := State.WarmedH.trans hW0 Z.warmed, limits := Z.limits.trans (Y.limits.symm.trans X.limits), bytes := Z.bytes.trans (Y.bytes.symm.trans X.bytes), same := ?_ }
  obtain ⟨e1, e2⟩ := Z.same
  rw [State.setFrames_setFrames] at e1
  have h2 : (T.setVm s.vm).sameButNew (S.setVm s.vm) [] k n := ⟨e1, e2⟩
  have h3 := X.same.trans h2
  rw [List.append_nil] at h3
  exact h3
/-- from the machine's note that E is thrown here with this text -/
def vx_Note (p : Program) (l : Launch) (e : Env) (R : Room) (s : State) (m : MethodId) (args : Array Value) (below : List Frame) (meth : Method) (c : Code) (H : Heap) (locs : List Loc) (cells slots : Nat) (Q : State → Prop) (g : JFrame) (E text : String) : Prop :=
  ∀ T : State, T.heap = H → Stand p l e R s m args below meth c T locs cells slots → ∃ t, Steps p.tables e below ((T.setTop g).pushFrame (.throwNew E (some text) none)) t ∧ Q t
theorem vx_vm {pc : Nat} {ls : Array Slot} {rest : List Value} {Q : State → Prop} (hexec : p.tables.exec = Jvm.exec) (hl : l.stackTraces = false) {cls text : String} {names : List String} {nb : Nat} {A : Nat → Prop}
    (hcls : Bundle.fit cls = true) (hnames : ∀ n ∈ names, Bundle.fit n = true) (hsoe : (cls == "java/lang/StackOverflowError") = false) (hoom : (cls == "java/lang/OutOfMemoryError") = false)
    (hat : ∀ w ∈ vx_atM cls names, w.before args s = true) (hgood : ∀ w ∈ vx_atM cls names, vx_ot w = true)
    (hU : vx_Zq Bundle.tN "UNASSIGNED_STACK" Bundle.steD A s s.heap) (hN : vx_Zq Bundle.tN "SUPPRESSED_SENTINEL" Bundle.listD A s s.heap) (hS : va_S A s.heap H locs) (hsize : ls.size = c.maxLocals)
    (htext : (text == notModelled) = false) (hnb : (stringBytes (stringToUtf16 text)).size ≤ nb) (hnb1 : nb ≤ 1000)
    (hRframes : names.length + 4 < R.frames) (hRlocals : (rest.map fun v => v.category).sum + 10240 ≤ R.locals) (hshort : 13 * names.length + 55 ≤ 10240) (hRcells : cells + 3 ≤ R.cells) (hRslots : slots + (nb + 10) ≤ R.slots) (hlocks : meth.locks = false)
    (k : ∀ (H1 : Heap) (q9 : Addr) (ce : Cell), H.size ≤ H1.size → (∀ q : Nat, q < H.size → H1[q]? = H[q]?) → va_S A s.heap H1 locs → H1[q9]? = some ce → ce.vm = .none → s.vm.findClass cls = some ce.cls → vx_W p l e R s m args below meth c H1 locs (cells + 3) (slots + (nb + 10)) Q (F0 m pc ls rest) q9) :
    vx_Note p l e R s m args below meth c H locs cells slots Q (F0 m pc ls rest) cls text := by
  intro T hT X
  have htr : e.platform.stackTraces = false := (show e.platform.stackTraces = l.stackTraces by rw [X.admits.platform]).trans hl
  have Y := vx_rebase X (R' := { frames := R.frames, locals := R.locals, cells := 3, slots := nb + 10 }) (Nat.le_refl _) (Nat.le_refl _) hRcells hRslots
  have hhp : ((T.setVm s.vm).setFrames (.invoking m args :: below)).heap = H := hT
  have hW0 : s.WarmedH ((T.setVm s.vm).setFrames (.invoking m args :: below)).vm := State.WarmedH.refl s
  have hat' : ∀ w ∈ vx_atM cls names, w.before args ((T.setVm s.vm).setFrames (.invoking m args :: below)) = true := fun w hw => vx_ot_at hW0 rfl (hgood w hw) (hat w hw)
  have hU' : vx_Zq Bundle.tN "UNASSIGNED_STACK" Bundle.steD A ((T.setVm s.vm).setFrames (.invoking m args :: below)) ((T.setVm s.vm).setFrames (.invoking m args :: below)).heap := by rw [hhp]; exact vx_Zq.moved hW0.alike (hU.kept hS.2.1)
  have hN' : vx_Zq Bundle.tN "SUPPRESSED_SENTINEL" Bundle.listD A ((T.setVm s.vm).setFrames (.invoking m args :: below)) ((T.setVm s.vm).setFrames (.invoking m args :: below)).heap := by rw [hhp]; exact vx_Zq.moved hW0.alike (hN.kept hS.2.1)
  obtain ⟨S, q, ce, st, Z, hce, hcl', hv⟩ := vx_vmAt Y hexec htr (cls := cls) (names := names) (text := text) hcls hnames hsoe hoom (vx_own hat' (vx_isRefq hU'.1) (vx_isRefq hN'.1) hU'.2.word hN'.2.word) (fun x hx => nomatch hx) htext
    (by rw [Launch.admits_arrayLengthLimit X.admits]; omega) (by rw [Launch.admits_maxHeapBytes X.admits]; simp only [componentBytes]; omega)
    (g := F0 m pc ls rest) rfl hsize hRframes (by show 2 * 0 + (rest.map fun v => v.category).sum + 10240 ≤ R.locals; omega) hshort (by show 0 + 3 ≤ 3; omega) (by show 0 + (_ + 4 + 6) ≤ nb + 10; omega) hlocks
  obtain ⟨f1, f2⟩ := vx_frame Z.same
  have f1' : H.size ≤ S.heap.size := by rw [← hT]; exact f1
  have f2' : ∀ q : Nat, q < H.size → S.heap[q]? = H[q]? := fun q hq => by
    rw [← hT]
    exact f2 q (by rw [← hT] at hq; exact hq) (fun z hz => nomatch hz)
  have X5 := vx_back9 X Y Z
  have X6 : Stand p l e R s m args below meth c S locs (cells + 3) (slots + (nb + 10)) := { X5 with same := X5.same.mono (by omega) (by omega) }
  obtain ⟨t, a1, b1⟩ := k S.heap q ce f1' f2' ⟨Nat.le_trans hS.1 f1', fun q h1 h2 => (f2' q (Nat.lt_of_lt_of_le h1 hS.1)).trans (hS.2.1 q h1 h2), hS.2.2⟩ hce hv hcl' S rfl X6
  exact ⟨t, st t a1, b1⟩
/-- from the machine's note that NullPointerException is thrown here -/
def vx_NoteN (p : Program) (l : Launch) (e : Env) (R : Room) (s : State) (m : MethodId) (args : Array Value) (below : List Frame) (meth : Method) (c : Code) (H : Heap) (locs : List Loc) (cells slots : Nat) (Q : State → Prop) (g : JFrame) : Prop :=
  ∀ T : State, T.heap = H → Stand p l e R s m args below meth c T locs cells slots → ∃ t, Steps p.tables e below ((T.setTop g).pushFrame (.throwNew "java/lang/NullPointerException" none none)) t ∧ Q t
theorem vx_npe {pc : Nat} {ls : Array Slot} {rest : List Value} {Q : State → Prop} (hexec : p.tables.exec = Jvm.exec) (hl : l.stackTraces = false) {nb : Nat} {A : Nat → Prop}
    (hat : ∀ w ∈ vx_atN nb, w.before args s = true) (hgood : ∀ w ∈ vx_atN nb, vx_ot w = true)
    (hU : vx_Zq Bundle.tN "UNASSIGNED_STACK" Bundle.steD A s s.heap) (hN : vx_Zq Bundle.tN "SUPPRESSED_SENTINEL" Bundle.listD A s s.heap) (hS : va_S A s.heap H locs) (hsize : ls.size = c.maxLocals)
    (hRframes : 7 < R.frames) (hRlocals : (rest.map fun v => v.category).sum + 10240 ≤ R.locals) (hRcells : cells + 1 ≤ R.cells) (hRslots : slots + nb ≤ R.slots) (hlocks : meth.locks = false)
    (k : ∀ (H1 : Heap) (q9 : Addr) (ce : Cell), H.size ≤ H1.size → (∀ q : Nat, q < H.size → H1[q]? = H[q]?) → va_S A s.heap H1 locs → H1[q9]? = some ce → ce.vm = .none → s.vm.findClass "java/lang/NullPointerException" = some ce.cls → vx_W p l e R s m args below meth c H1 locs (cells + 1) (slots + nb) Q (F0 m pc ls rest) q9) :
    vx_NoteN p l e R s m args below meth c H locs cells slots Q (F0 m pc ls rest) := by
  intro T hT X
  have htr : e.platform.stackTraces = false := (show e.platform.stackTraces = l.stackTraces by rw [X.admits.platform]).trans hl
  have Y := vx_rebase X (R' := { frames := R.frames, locals := R.locals, cells := 1, slots := nb }) (Nat.le_refl _) (Nat.le_refl _) hRcells hRslots
  have hhp : ((T.setVm s.vm).setFrames (.invoking m args :: below)).heap = H := hT
  have hW0 : s.WarmedH ((T.setVm s.vm).setFrames (.invoking m args :: below)).vm := State.WarmedH.refl s
  have hat' : ∀ w ∈ vx_atN nb, w.before args ((T.setVm s.vm).setFrames (.invoking m args :: below)) = true := fun w hw => vx_ot_at hW0 rfl (hgood w hw) (hat w hw)
  have hU' : vx_Zq Bundle.tN "UNASSIGNED_STACK" Bundle.steD A ((T.setVm s.vm).setFrames (.invoking m args :: below)) ((T.setVm s.vm).setFrames (.invoking m args :: below)).heap := by rw [hhp]; exact vx_Zq.moved hW0.alike (hU.kept hS.2.1)
  have hN' : vx_Zq Bundle.tN "SUPPRESSED_SENTINEL" Bundle.listD A ((T.setVm s.vm).setFrames (.invoking m args :: below)) ((T.setVm s.vm).setFrames (.invoking m args :: below)).heap := by rw [hhp]; exact vx_Zq.moved hW0.alike (hN.kept hS.2.1)
  obtain ⟨S, q, ce, st, Z, hce, hcl', hv⟩ := vx_npeAt Y hexec htr (n := nb) (vx_own hat' (vx_isRefq hU'.1) (vx_isRefq hN'.1) hU'.2.word hN'.2.word) (fun x hx => nomatch hx)
    (g := F0 m pc ls rest) rfl hsize hRframes (by show 2 * 0 + (rest.map fun v => v.category).sum + 10240 ≤ R.locals; omega) (by show 0 + 1 ≤ 1; omega) (by show 0 + nb ≤ nb; omega) hlocks
  obtain ⟨f1, f2⟩ := vx_frame Z.same
  have f1' : H.size ≤ S.heap.size := by rw [← hT]; exact f1
  have f2' : ∀ q : Nat, q < H.size → S.heap[q]? = H[q]? := fun q hq => by
    rw [← hT]
    exact f2 q (by rw [← hT] at hq; exact hq) (fun z hz => nomatch hz)
  have X5 := vx_back9 X Y Z
  have X6 : Stand p l e R s m args below meth c S locs (cells + 1) (slots + nb) := { X5 with same := X5.same.mono (by omega) (by omega) }
  obtain ⟨t, a1, b1⟩ := k S.heap q ce f1' f2' ⟨Nat.le_trans hS.1 f1', fun q h1 h2 => (f2' q (Nat.lt_of_lt_of_le h1 hS.1)).trans (hS.2.1 q h1 h2), hS.2.2⟩ hce hv hcl' S rfl X6
  exact ⟨t, st t a1, b1⟩
variable {Q : State → Prop} {cc : ByteArray} {pc : Nat} {ls : Array Slot} {rest : List Value}
theorem vx_idivZ (hexec : p.tables.exec = Jvm.exec) (hb : c.code = cc) {a b : Int32} (h0 : b = 0) (d : decode cc pc = .ok (.idiv, 1)) (k : vx_Note p l e R s m args below meth c H locs cells slots Q (F0 m pc ls rest) "java/lang/ArithmeticException" "/ by zero") :
    W p l e R s m args below meth c H locs cells slots Q (F0 m pc ls (.int b :: .int a :: rest)) := by
  intro T hT X
  obtain ⟨t, st, q⟩ := k T hT X
  exact ⟨t, X.idivZero hexec (g := F0 m pc ls (.int b :: .int a :: rest)) rfl (a := a) (rest := rest) (by rw [h0]) (by rw [hb]; exact d) t st, q⟩
theorem vx_iremZ (hexec : p.tables.exec = Jvm.exec) (hb : c.code = cc) {a b : Int32} (h0 : b = 0) (d : decode cc pc = .ok (.irem, 1)) (k : vx_Note p l e R s m args below meth c H locs cells slots Q (F0 m pc ls rest) "java/lang/ArithmeticException" "/ by zero") :
    W p l e R s m args below meth c H locs cells slots Q (F0 m pc ls (.int b :: .int a :: rest)) := by
  intro T hT X
  obtain ⟨t, st, q⟩ := k T hT X
  exact ⟨t, X.iremZero hexec (g := F0 m pc ls (.int b :: .int a :: rest)) rfl (a := a) (rest := rest) (by rw [h0]) (by rw [hb]; exact d) t st, q⟩
theorem vx_ldivZ (hexec : p.tables.exec = Jvm.exec) (hb : c.code = cc) {a b : Int64} (h0 : b = 0) (d : decode cc pc = .ok (.ldiv, 1)) (k : vx_Note p l e R s m args below meth c H locs cells slots Q (F0 m pc ls rest) "java/lang/ArithmeticException" "/ by zero") :
    W p l e R s m args below meth c H locs cells slots Q (F0 m pc ls (.long b :: .long a :: rest)) := by
  intro T hT X
  obtain ⟨t, st, q⟩ := k T hT X
  exact ⟨t, X.ldivZero hexec (g := F0 m pc ls (.long b :: .long a :: rest)) rfl (a := a) (rest := rest) (by rw [h0]) (by rw [hb]; exact d) t st, q⟩
theorem vx_lremZ (hexec : p.tables.exec = Jvm.exec) (hb : c.code = cc) {a b : Int64} (h0 : b = 0) (d : decode cc pc = .ok (.lrem, 1)) (k : vx_Note p l e R s m args below meth c H locs cells slots Q (F0 m pc ls rest) "java/lang/ArithmeticException" "/ by zero") :
    W p l e R s m args below meth c H locs cells slots Q (F0 m pc ls (.long b :: .long a :: rest)) := by
  intro T hT X
  obtain ⟨t, st, q⟩ := k T hT X
  exact ⟨t, X.lremZero hexec (g := F0 m pc ls (.long b :: .long a :: rest)) rfl (a := a) (rest := rest) (by rw [h0]) (by rw [hb]; exact d) t st, q⟩
theorem vx_ialdZ {D : va_G} {cl : List vw_C} {ws : va_W} {tys : List (ClassId × FieldType)} {a : Nat} (hexec : p.tables.exec = Jvm.exec) (hb : c.code = cc) (hK : va_K D cl tys s) (hP : va_P D cl ws H) (q0 t0 : Nat) {cA : ClassId} {n : Nat} {f : Nat → Int32} (ha : ws[q0]? = some (a, .inl (cA, n, .inl f))) (ht : tys[t0]? = some (cA, .int)) {i : Int32} (hout : ¬ vp_in i n) (hdg : decode cc pc = .ok (.iaload, 1))
    (k : ∀ tx : String, tx = (toString "Index " ++ toString i ++ toString " out of bounds for length " ++ toString n : String) → vx_Note p l e R s m args below meth c H locs cells slots Q (F0 m pc ls rest) "java/lang/ArrayIndexOutOfBoundsException" tx) : W p l e R s m args below meth c H locs cells slots Q (F0 m pc ls (.int i :: .ref a :: rest)) := by
  intro T hT X
  obtain ⟨t, st, q⟩ := k _ rfl T hT X
  refine ⟨t, ?_, q⟩
  have h1 := X.ialoadOut hexec (by rw [hT]; exact hP q0 _ ha) ((hK.2 t0 _ ht).1 n (fun j => .int (f j))) (j := i) (by show (i < 0 ∨ (arrV _ _ _).slots.size ≤ _); rw [arrV_size]; exact Classical.byContradiction hout) (g := F0 m pc ls (.int i :: .ref a :: rest)) rfl (rest := rest) rfl (by rw [hb]; exact hdg) t
  simp only [arrV_size] at h1
  exact h1 st
theorem vx_iastZ {D : va_G} {cl : List vw_C} {ws : va_W} {tys : List (ClassId × FieldType)} {a : Nat} (hexec : p.tables.exec = Jvm.exec) (hb : c.code = cc) (hK : va_K D cl tys s) (hP : va_P D cl ws H) (q0 t0 : Nat) {cA : ClassId} {n : Nat} {f : Nat → Int32} (ha : ws[q0]? = some (a, .inl (cA, n, .inl f))) (ht : tys[t0]? = some (cA, .int)) {i : Int32} {x : Int32} (hout : ¬ vp_in i n) (hdg : decode cc pc = .ok (.iastore, 1))
    (k : ∀ tx : String, tx = (toString "Index " ++ toString i ++ toString " out of bounds for length " ++ toString n : String) → vx_Note p l e R s m args below meth c H locs cells slots Q (F0 m pc ls rest) "java/lang/ArrayIndexOutOfBoundsException" tx) : W p l e R s m args below meth c H locs cells slots Q (F0 m pc ls (.int x :: .int i :: .ref a :: rest)) := by
  intro T hT X
  obtain ⟨t, st, q⟩ := k _ rfl T hT X
  refine ⟨t, ?_, q⟩
  have h1 := X.iastoreOut hexec (by rw [hT]; exact hP q0 _ ha) ((hK.2 t0 _ ht).1 n (fun j => .int (f j))) (j := i) (by show (i < 0 ∨ (arrV _ _ _).slots.size ≤ _); rw [arrV_size]; exact Classical.byContradiction hout) (g := F0 m pc ls (.int x :: .int i :: .ref a :: rest)) rfl (rest := rest) rfl (by rw [hb]; exact hdg) t
  simp only [arrV_size] at h1
  exact h1 st
theorem vx_baldZ {D : va_G} {cl : List vw_C} {ws : va_W} {tys : List (ClassId × FieldType)} {a : Nat} (hexec : p.tables.exec = Jvm.exec) (hb : c.code = cc) (hK : va_K D cl tys s) (hP : va_P D cl ws H) (q0 t0 : Nat) {cA : ClassId} {n : Nat} {f : Nat → Int32} (ha : ws[q0]? = some (a, .inl (cA, n, .inl f))) (ht : tys[t0]? = some (cA, .byte)) {i : Int32} (hout : ¬ vp_in i n) (hdg : decode cc pc = .ok (.baload, 1))
    (k : ∀ tx : String, tx = (toString "Index " ++ toString i ++ toString " out of bounds for length " ++ toString n : String) → vx_Note p l e R s m args below meth c H locs cells slots Q (F0 m pc ls rest) "java/lang/ArrayIndexOutOfBoundsException" tx) : W p l e R s m args below meth c H locs cells slots Q (F0 m pc ls (.int i :: .ref a :: rest)) := by
  intro T hT X
  obtain ⟨t, st, q⟩ := k _ rfl T hT X
  refine ⟨t, ?_, q⟩
  have h1 := X.baloadOut hexec (by rw [hT]; exact hP q0 _ ha) ((hK.2 t0 _ ht).1 n (fun j => .int (f j))) (j := i) (by show (i < 0 ∨ (arrV _ _ _).slots.size ≤ _); rw [arrV_size]; exact Classical.byContradiction hout) (g := F0 m pc ls (.int i :: .ref a :: rest)) rfl (rest := rest) rfl (by rw [hb]; exact hdg) t
  simp only [arrV_size] at h1
  exact h1 st
theorem vx_bastZ {D : va_G} {cl : List vw_C} {ws : va_W} {tys : List (ClassId × FieldType)} {a : Nat} (hexec : p.tables.exec = Jvm.exec) (hb : c.code = cc) (hK : va_K D cl tys s) (hP : va_P D cl ws H) (q0 t0 : Nat) {cA : ClassId} {n : Nat} {f : Nat → Int32} (ha : ws[q0]? = some (a, .inl (cA, n, .inl f))) (ht : tys[t0]? = some (cA, .byte)) {i : Int32} {x : Int32} (hout : ¬ vp_in i n) (hdg : decode cc pc = .ok (.bastore, 1))
    (k : ∀ tx : String, tx = (toString "Index " ++ toString i ++ toString " out of bounds for length " ++ toString n : String) → vx_Note p l e R s m args below meth c H locs cells slots Q (F0 m pc ls rest) "java/lang/ArrayIndexOutOfBoundsException" tx) : W p l e R s m args below meth c H locs cells slots Q (F0 m pc ls (.int x :: .int i :: .ref a :: rest)) := by
  intro T hT X
  obtain ⟨t, st, q⟩ := k _ rfl T hT X
  refine ⟨t, ?_, q⟩
  have h1 := X.bastoreOut hexec (by rw [hT]; exact hP q0 _ ha) ((hK.2 t0 _ ht).1 n (fun j => .int (f j))) (j := i) (by show (i < 0 ∨ (arrV _ _ _).slots.size ≤ _); rw [arrV_size]; exact Classical.byContradiction hout) (g := F0 m pc ls (.int x :: .int i :: .ref a :: rest)) rfl (rest := rest) rfl (by rw [hb]; exact hdg) t
  simp only [arrV_size] at h1
  exact h1 st
theorem vx_zaldZ {D : va_G} {cl : List vw_C} {ws : va_W} {tys : List (ClassId × FieldType)} {a : Nat} (hexec : p.tables.exec = Jvm.exec) (hb : c.code = cc) (hK : va_K D cl tys s) (hP : va_P D cl ws H) (q0 t0 : Nat) {cA : ClassId} {n : Nat} {f : Nat → Int32} (ha : ws[q0]? = some (a, .inl (cA, n, .inl f))) (ht : tys[t0]? = some (cA, .boolean)) {i : Int32} (hout : ¬ vp_in i n) (hdg : decode cc pc = .ok (.baload, 1))
    (k : ∀ tx : String, tx = (toString "Index " ++ toString i ++ toString " out of bounds for length " ++ toString n : String) → vx_Note p l e R s m args below meth c H locs cells slots Q (F0 m pc ls rest) "java/lang/ArrayIndexOutOfBoundsException" tx) : W p l e R s m args below meth c H locs cells slots Q (F0 m pc ls (.int i :: .ref a :: rest)) := by
  intro T hT X
  obtain ⟨t, st, q⟩ := k _ rfl T hT X
  refine ⟨t, ?_, q⟩
  have h1 := X.baloadOut hexec (by rw [hT]; exact hP q0 _ ha) ((hK.2 t0 _ ht).1 n (fun j => .int (f j))) (j := i) (by show (i < 0 ∨ (arrV _ _ _).slots.size ≤ _); rw [arrV_size]; exact Classical.byContradiction hout) (g := F0 m pc ls (.int i :: .ref a :: rest)) rfl (rest := rest) rfl (by rw [hb]; exact hdg) t
  simp only [arrV_size] at h1
  exact h1 st
theorem vx_zastZ {D : va_G} {cl : List vw_C} {ws : va_W} {tys : List (ClassId × FieldType)} {a : Nat} (hexec : p.tables.exec = Jvm.exec) (hb : c.code = cc) (hK : va_K D cl tys s) (hP : va_P D cl ws H) (q0 t0 : Nat) {cA : ClassId} {n : Nat} {f : Nat → Int32} (ha : ws[q0]? = some (a, .inl (cA, n, .inl f))) (ht : tys[t0]? = some (cA, .boolean)) {i : Int32} {x : Int32} (hout : ¬ vp_in i n) (hdg : decode cc pc = .ok (.bastore, 1))
    (k : ∀ tx : String, tx = (toString "Index " ++ toString i ++ toString " out of bounds for length " ++ toString n : String) → vx_Note p l e R s m args below meth c H locs cells slots Q (F0 m pc ls rest) "java/lang/ArrayIndexOutOfBoundsException" tx) : W p l e R s m args below meth c H locs cells slots Q (F0 m pc ls (.int x :: .int i :: .ref a :: rest)) := by
  intro T hT X
  obtain ⟨t, st, q⟩ := k _ rfl T hT X
  refine ⟨t, ?_, q⟩
  have h1 := X.bastoreOut hexec (by rw [hT]; exact hP q0 _ ha) ((hK.2 t0 _ ht).1 n (fun j => .int (f j))) (j := i) (by show (i < 0 ∨ (arrV _ _ _).slots.size ≤ _); rw [arrV_size]; exact Classical.byContradiction hout) (g := F0 m pc ls (.int x :: .int i :: .ref a :: rest)) rfl (rest := rest) rfl (by rw [hb]; exact hdg) t
  simp only [arrV_size] at h1
  exact h1 st
theorem vx_caldZ {D : va_G} {cl : List vw_C} {ws : va_W} {tys : List (ClassId × FieldType)} {a : Nat} (hexec : p.tables.exec = Jvm.exec) (hb : c.code = cc) (hK : va_K D cl tys s) (hP : va_P D cl ws H) (q0 t0 : Nat) {cA : ClassId} {n : Nat} {f : Nat → Int32} (ha : ws[q0]? = some (a, .inl (cA, n, .inl f))) (ht : tys[t0]? = some (cA, .char)) {i : Int32} (hout : ¬ vp_in i n) (hdg : decode cc pc = .ok (.caload, 1))
    (k : ∀ tx : String, tx = (toString "Index " ++ toString i ++ toString " out of bounds for length " ++ toString n : String) → vx_Note p l e R s m args below meth c H locs cells slots Q (F0 m pc ls rest) "java/lang/ArrayIndexOutOfBoundsException" tx) : W p l e R s m args below meth c H locs cells slots Q (F0 m pc ls (.int i :: .ref a :: rest)) := by
  intro T hT X
  obtain ⟨t, st, q⟩ := k _ rfl T hT X
  refine ⟨t, ?_, q⟩
  have h1 := X.caloadOut hexec (by rw [hT]; exact hP q0 _ ha) ((hK.2 t0 _ ht).1 n (fun j => .int (f j))) (j := i) (by show (i < 0 ∨ (arrV _ _ _).slots.size ≤ _); rw [arrV_size]; exact Classical.byContradiction hout) (g := F0 m pc ls (.int i :: .ref a :: rest)) rfl (rest := rest) rfl (by rw [hb]; exact hdg) t
  simp only [arrV_size] at h1
  exact h1 st
theorem vx_castZ {D : va_G} {cl : List vw_C} {ws : va_W} {tys : List (ClassId × FieldType)} {a : Nat} (hexec : p.tables.exec = Jvm.exec) (hb : c.code = cc) (hK : va_K D cl tys s) (hP : va_P D cl ws H) (q0 t0 : Nat) {cA : ClassId} {n : Nat} {f : Nat → Int32} (ha : ws[q0]? = some (a, .inl (cA, n, .inl f))) (ht : tys[t0]? = some (cA, .char)) {i : Int32} {x : Int32} (hout : ¬ vp_in i n) (hdg : decode cc pc = .ok (.castore, 1))
    (k : ∀ tx : String, tx = (toString "Index " ++ toString i ++ toString " out of bounds for length " ++ toString n : String) → vx_Note p l e R s m args below meth c H locs cells slots Q (F0 m pc ls rest) "java/lang/ArrayIndexOutOfBoundsException" tx) : W p l e R s m args below meth c H locs cells slots Q (F0 m pc ls (.int x :: .int i :: .ref a :: rest)) := by
  intro T hT X
  obtain ⟨t, st, q⟩ := k _ rfl T hT X
  refine ⟨t, ?_, q⟩
  have h1 := X.castoreOut hexec (by rw [hT]; exact hP q0 _ ha) ((hK.2 t0 _ ht).1 n (fun j => .int (f j))) (j := i) (by show (i < 0 ∨ (arrV _ _ _).slots.size ≤ _); rw [arrV_size]; exact Classical.byContradiction hout) (g := F0 m pc ls (.int x :: .int i :: .ref a :: rest)) rfl (rest := rest) rfl (by rw [hb]; exact hdg) t
  simp only [arrV_size] at h1
  exact h1 st
theorem vx_saldZ {D : va_G} {cl : List vw_C} {ws : va_W} {tys : List (ClassId × FieldType)} {a : Nat} (hexec : p.tables.exec = Jvm.exec) (hb : c.code = cc) (hK : va_K D cl tys s) (hP : va_P D cl ws H) (q0 t0 : Nat) {cA : ClassId} {n : Nat} {f : Nat → Int32} (ha : ws[q0]? = some (a, .inl (cA, n, .inl f))) (ht : tys[t0]? = some (cA, .short)) {i : Int32} (hout : ¬ vp_in i n) (hdg : decode cc pc = .ok (.saload, 1))
    (k : ∀ tx : String, tx = (toString "Index " ++ toString i ++ toString " out of bounds for length " ++ toString n : String) → vx_Note p l e R s m args below meth c H locs cells slots Q (F0 m pc ls rest) "java/lang/ArrayIndexOutOfBoundsException" tx) : W p l e R s m args below meth c H locs cells slots Q (F0 m pc ls (.int i :: .ref a :: rest)) := by
  intro T hT X
  obtain ⟨t, st, q⟩ := k _ rfl T hT X
  refine ⟨t, ?_, q⟩
  have h1 := X.saloadOut hexec (by rw [hT]; exact hP q0 _ ha) ((hK.2 t0 _ ht).1 n (fun j => .int (f j))) (j := i) (by show (i < 0 ∨ (arrV _ _ _).slots.size ≤ _); rw [arrV_size]; exact Classical.byContradiction hout) (g := F0 m pc ls (.int i :: .ref a :: rest)) rfl (rest := rest) rfl (by rw [hb]; exact hdg) t
  simp only [arrV_size] at h1
  exact h1 st
theorem vx_sastZ {D : va_G} {cl : List vw_C} {ws : va_W} {tys : List (ClassId × FieldType)} {a : Nat} (hexec : p.tables.exec = Jvm.exec) (hb : c.code = cc) (hK : va_K D cl tys s) (hP : va_P D cl ws H) (q0 t0 : Nat) {cA : ClassId} {n : Nat} {f : Nat → Int32} (ha : ws[q0]? = some (a, .inl (cA, n, .inl f))) (ht : tys[t0]? = some (cA, .short)) {i : Int32} {x : Int32} (hout : ¬ vp_in i n) (hdg : decode cc pc = .ok (.sastore, 1))
    (k : ∀ tx : String, tx = (toString "Index " ++ toString i ++ toString " out of bounds for length " ++ toString n : String) → vx_Note p l e R s m args below meth c H locs cells slots Q (F0 m pc ls rest) "java/lang/ArrayIndexOutOfBoundsException" tx) : W p l e R s m args below meth c H locs cells slots Q (F0 m pc ls (.int x :: .int i :: .ref a :: rest)) := by
  intro T hT X
  obtain ⟨t, st, q⟩ := k _ rfl T hT X
  refine ⟨t, ?_, q⟩
  have h1 := X.sastoreOut hexec (by rw [hT]; exact hP q0 _ ha) ((hK.2 t0 _ ht).1 n (fun j => .int (f j))) (j := i) (by show (i < 0 ∨ (arrV _ _ _).slots.size ≤ _); rw [arrV_size]; exact Classical.byContradiction hout) (g := F0 m pc ls (.int x :: .int i :: .ref a :: rest)) rfl (rest := rest) rfl (by rw [hb]; exact hdg) t
  simp only [arrV_size] at h1
  exact h1 st
theorem vx_laldZ {D : va_G} {cl : List vw_C} {ws : va_W} {tys : List (ClassId × FieldType)} {a : Nat} (hexec : p.tables.exec = Jvm.exec) (hb : c.code = cc) (hK : va_K D cl tys s) (hP : va_P D cl ws H) (q0 t0 : Nat) {cA : ClassId} {n : Nat} {f : Nat → Int64} (ha : ws[q0]? = some (a, .inl (cA, n, .inr (.inl f)))) (ht : tys[t0]? = some (cA, .long)) {i : Int32} (hout : ¬ vp_in i n) (hdg : decode cc pc = .ok (.laload, 1))
    (k : ∀ tx : String, tx = (toString "Index " ++ toString i ++ toString " out of bounds for length " ++ toString n : String) → vx_Note p l e R s m args below meth c H locs cells slots Q (F0 m pc ls rest) "java/lang/ArrayIndexOutOfBoundsException" tx) : W p l e R s m args below meth c H locs cells slots Q (F0 m pc ls (.int i :: .ref a :: rest)) := by
  intro T hT X
  obtain ⟨t, st, q⟩ := k _ rfl T hT X
  refine ⟨t, ?_, q⟩
  have h1 := X.laloadOut hexec (by rw [hT]; exact hP q0 _ ha) ((hK.2 t0 _ ht).1 n (fun j => .long (f j))) (j := i) (by show (i < 0 ∨ (arrV _ _ _).slots.size ≤ _); rw [arrV_size]; exact Classical.byContradiction hout) (g := F0 m pc ls (.int i :: .ref a :: rest)) rfl (rest := rest) rfl (by rw [hb]; exact hdg) t
  simp only [arrV_size] at h1
  exact h1 st
theorem vx_lastZ {D : va_G} {cl : List vw_C} {ws : va_W} {tys : List (ClassId × FieldType)} {a : Nat} (hexec : p.tables.exec = Jvm.exec) (hb : c.code = cc) (hK : va_K D cl tys s) (hP : va_P D cl ws H) (q0 t0 : Nat) {cA : ClassId} {n : Nat} {f : Nat → Int64} (ha : ws[q0]? = some (a, .inl (cA, n, .inr (.inl f)))) (ht : tys[t0]? = some (cA, .long)) {i : Int32} {x : Int64} (hout : ¬ vp_in i n) (hdg : decode cc pc = .ok (.lastore, 1))
    (k : ∀ tx : String, tx = (toString "Index " ++ toString i ++ toString " out of bounds for length " ++ toString n : String) → vx_Note p l e R s m args below meth c H locs cells slots Q (F0 m pc ls rest) "java/lang/ArrayIndexOutOfBoundsException" tx) : W p l e R s m args below meth c H locs cells slots Q (F0 m pc ls (.long x :: .int i :: .ref a :: rest)) := by
  intro T hT X
  obtain ⟨t, st, q⟩ := k _ rfl T hT X
  refine ⟨t, ?_, q⟩
  have h1 := X.lastoreOut hexec (by rw [hT]; exact hP q0 _ ha) ((hK.2 t0 _ ht).1 n (fun j => .long (f j))) (j := i) (by show (i < 0 ∨ (arrV _ _ _).slots.size ≤ _); rw [arrV_size]; exact Classical.byContradiction hout) (g := F0 m pc ls (.long x :: .int i :: .ref a :: rest)) rfl (rest := rest) rfl (by rw [hb]; exact hdg) t
  simp only [arrV_size] at h1
  exact h1 st
theorem vx_faldZ {D : va_G} {cl : List vw_C} {ws : va_W} {tys : List (ClassId × FieldType)} {a : Nat} (hexec : p.tables.exec = Jvm.exec) (hb : c.code = cc) (hK : va_K D cl tys s) (hP : va_P D cl ws H) (q0 t0 : Nat) {cA : ClassId} {n : Nat} {f : Nat → UInt32} (ha : ws[q0]? = some (a, .inl (cA, n, .inr (.inr (.inl f))))) (ht : tys[t0]? = some (cA, .float)) {i : Int32} (hout : ¬ vp_in i n) (hdg : decode cc pc = .ok (.faload, 1))
    (k : ∀ tx : String, tx = (toString "Index " ++ toString i ++ toString " out of bounds for length " ++ toString n : String) → vx_Note p l e R s m args below meth c H locs cells slots Q (F0 m pc ls rest) "java/lang/ArrayIndexOutOfBoundsException" tx) : W p l e R s m args below meth c H locs cells slots Q (F0 m pc ls (.int i :: .ref a :: rest)) := by
  intro T hT X
  obtain ⟨t, st, q⟩ := k _ rfl T hT X
  refine ⟨t, ?_, q⟩
  have h1 := X.faloadOut hexec (by rw [hT]; exact hP q0 _ ha) ((hK.2 t0 _ ht).1 n (fun j => .float (f j))) (j := i) (by show (i < 0 ∨ (arrV _ _ _).slots.size ≤ _); rw [arrV_size]; exact Classical.byContradiction hout) (g := F0 m pc ls (.int i :: .ref a :: rest)) rfl (rest := rest) rfl (by rw [hb]; exact hdg) t
  simp only [arrV_size] at h1
  exact h1 st
theorem vx_fastZ {D : va_G} {cl : List vw_C} {ws : va_W} {tys : List (ClassId × FieldType)} {a : Nat} (hexec : p.tables.exec = Jvm.exec) (hb : c.code = cc) (hK : va_K D cl tys s) (hP : va_P D cl ws H) (q0 t0 : Nat) {cA : ClassId} {n : Nat} {f : Nat → UInt32} (ha : ws[q0]? = some (a, .inl (cA, n, .inr (.inr (.inl f))))) (ht : tys[t0]? = some (cA, .float)) {i : Int32} {x : UInt32} (hout : ¬ vp_in i n) (hdg : decode cc pc = .ok (.fastore, 1))
    (k : ∀ tx : String, tx = (toString "Index " ++ toString i ++ toString " out of bounds for length " ++ toString n : String) → vx_Note p l e R s m args below meth c H locs cells slots Q (F0 m pc ls rest) "java/lang/ArrayIndexOutOfBoundsException" tx) : W p l e R s m args below meth c H locs cells slots Q (F0 m pc ls (.float x :: .int i :: .ref a :: rest)) := by
  intro T hT X
  obtain ⟨t, st, q⟩ := k _ rfl T hT X
  refine ⟨t, ?_, q⟩
  have h1 := X.fastoreOut hexec (by rw [hT]; exact hP q0 _ ha) ((hK.2 t0 _ ht).1 n (fun j => .float (f j))) (j := i) (by show (i < 0 ∨ (arrV _ _ _).slots.size ≤ _); rw [arrV_size]; exact Classical.byContradiction hout) (g := F0 m pc ls (.float x :: .int i :: .ref a :: rest)) rfl (rest := rest) rfl (by rw [hb]; exact hdg) t
  simp only [arrV_size] at h1
  exact h1 st
theorem vx_daldZ {D : va_G} {cl : List vw_C} {ws : va_W} {tys : List (ClassId × FieldType)} {a : Nat} (hexec : p.tables.exec = Jvm.exec) (hb : c.code = cc) (hK : va_K D cl tys s) (hP : va_P D cl ws H) (q0 t0 : Nat) {cA : ClassId} {n : Nat} {f : Nat → UInt64} (ha : ws[q0]? = some (a, .inl (cA, n, .inr (.inr (.inr (.inl f)))))) (ht : tys[t0]? = some (cA, .double)) {i : Int32} (hout : ¬ vp_in i n) (hdg : decode cc pc = .ok (.daload, 1))
    (k : ∀ tx : String, tx = (toString "Index " ++ toString i ++ toString " out of bounds for length " ++ toString n : String) → vx_Note p l e R s m args below meth c H locs cells slots Q (F0 m pc ls rest) "java/lang/ArrayIndexOutOfBoundsException" tx) : W p l e R s m args below meth c H locs cells slots Q (F0 m pc ls (.int i :: .ref a :: rest)) := by
  intro T hT X
  obtain ⟨t, st, q⟩ := k _ rfl T hT X
  refine ⟨t, ?_, q⟩
  have h1 := X.daloadOut hexec (by rw [hT]; exact hP q0 _ ha) ((hK.2 t0 _ ht).1 n (fun j => .double (f j))) (j := i) (by show (i < 0 ∨ (arrV _ _ _).slots.size ≤ _); rw [arrV_size]; exact Classical.byContradiction hout) (g := F0 m pc ls (.int i :: .ref a :: rest)) rfl (rest := rest) rfl (by rw [hb]; exact hdg) t
  simp only [arrV_size] at h1
  exact h1 st
theorem vx_dastZ {D : va_G} {cl : List vw_C} {ws : va_W} {tys : List (ClassId × FieldType)} {a : Nat} (hexec : p.tables.exec = Jvm.exec) (hb : c.code = cc) (hK : va_K D cl tys s) (hP : va_P D cl ws H) (q0 t0 : Nat) {cA : ClassId} {n : Nat} {f : Nat → UInt64} (ha : ws[q0]? = some (a, .inl (cA, n, .inr (.inr (.inr (.inl f)))))) (ht : tys[t0]? = some (cA, .double)) {i : Int32} {x : UInt64} (hout : ¬ vp_in i n) (hdg : decode cc pc = .ok (.dastore, 1))
    (k : ∀ tx : String, tx = (toString "Index " ++ toString i ++ toString " out of bounds for length " ++ toString n : String) → vx_Note p l e R s m args below meth c H locs cells slots Q (F0 m pc ls rest) "java/lang/ArrayIndexOutOfBoundsException" tx) : W p l e R s m args below meth c H locs cells slots Q (F0 m pc ls (.double x :: .int i :: .ref a :: rest)) := by
  intro T hT X
  obtain ⟨t, st, q⟩ := k _ rfl T hT X
  refine ⟨t, ?_, q⟩
  have h1 := X.dastoreOut hexec (by rw [hT]; exact hP q0 _ ha) ((hK.2 t0 _ ht).1 n (fun j => .double (f j))) (j := i) (by show (i < 0 ∨ (arrV _ _ _).slots.size ≤ _); rw [arrV_size]; exact Classical.byContradiction hout) (g := F0 m pc ls (.double x :: .int i :: .ref a :: rest)) rfl (rest := rest) rfl (by rw [hb]; exact hdg) t
  simp only [arrV_size] at h1
  exact h1 st
theorem vx_arraylengthN (hexec : p.tables.exec = Jvm.exec) (hb : c.code = cc) (hdg : decode cc pc = .ok (.arraylength, 1)) (k : vx_NoteN p l e R s m args below meth c H locs cells slots Q (F0 m pc ls rest)) : W p l e R s m args below meth c H locs cells slots Q (F0 m pc ls (.null :: rest)) := by
  intro T hT X
  obtain ⟨t, st, q⟩ := k T hT X
  exact ⟨t, X.arraylengthNull hexec (g := F0 m pc ls (.null :: rest)) rfl (rest := rest) rfl (by rw [hb]; exact hdg) t st, q⟩
theorem vx_ialoadN (hexec : p.tables.exec = Jvm.exec) (hb : c.code = cc) {i : Int32} (hdg : decode cc pc = .ok (.iaload, 1)) (k : vx_NoteN p l e R s m args below meth c H locs cells slots Q (F0 m pc ls rest)) : W p l e R s m args below meth c H locs cells slots Q (F0 m pc ls (.int i :: .null :: rest)) := by
  intro T hT X
  obtain ⟨t, st, q⟩ := k T hT X
  exact ⟨t, X.ialoadNull hexec (g := F0 m pc ls (.int i :: .null :: rest)) rfl (rest := rest) rfl (by rw [hb]; exact hdg) t st, q⟩
theorem vx_laloadN (hexec : p.tables.exec = Jvm.exec) (hb : c.code = cc) {i : Int32} (hdg : decode cc pc = .ok (.laload, 1)) (k : vx_NoteN p l e R s m args below meth c H locs cells slots Q (F0 m pc ls rest)) : W p l e R s m args below meth c H locs cells slots Q (F0 m pc ls (.int i :: .null :: rest)) := by
  intro T hT X
  obtain ⟨t, st, q⟩ := k T hT X
  exact ⟨t, X.laloadNull hexec (g := F0 m pc ls (.int i :: .null :: rest)) rfl (rest := rest) rfl (by rw [hb]; exact hdg) t st, q⟩
theorem vx_faloadN (hexec : p.tables.exec = Jvm.exec) (hb : c.code = cc) {i : Int32} (hdg : decode cc pc = .ok (.faload, 1)) (k : vx_NoteN p l e R s m args below meth c H locs cells slots Q (F0 m pc ls rest)) : W p l e R s m args below meth c H locs cells slots Q (F0 m pc ls (.int i :: .null :: rest)) := by
  intro T hT X
  obtain ⟨t, st, q⟩ := k T hT X
  exact ⟨t, X.faloadNull hexec (g := F0 m pc ls (.int i :: .null :: rest)) rfl (rest := rest) rfl (by rw [hb]; exact hdg) t st, q⟩
theorem vx_daloadN (hexec : p.tables.exec = Jvm.exec) (hb : c.code = cc) {i : Int32} (hdg : decode cc pc = .ok (.daload, 1)) (k : vx_NoteN p l e R s m args below meth c H locs cells slots Q (F0 m pc ls rest)) : W p l e R s m args below meth c H locs cells slots Q (F0 m pc ls (.int i :: .null :: rest)) := by
  intro T hT X
  obtain ⟨t, st, q⟩ := k T hT X
  exact ⟨t, X.daloadNull hexec (g := F0 m pc ls (.int i :: .null :: rest)) rfl (rest := rest) rfl (by rw [hb]; exact hdg) t st, q⟩
theorem vx_aaloadN (hexec : p.tables.exec = Jvm.exec) (hb : c.code = cc) {i : Int32} (hdg : decode cc pc = .ok (.aaload, 1)) (k : vx_NoteN p l e R s m args below meth c H locs cells slots Q (F0 m pc ls rest)) : W p l e R s m args below meth c H locs cells slots Q (F0 m pc ls (.int i :: .null :: rest)) := by
  intro T hT X
  obtain ⟨t, st, q⟩ := k T hT X
  exact ⟨t, X.aaloadNull hexec (g := F0 m pc ls (.int i :: .null :: rest)) rfl (rest := rest) rfl (by rw [hb]; exact hdg) t st, q⟩
theorem vx_baloadN (hexec : p.tables.exec = Jvm.exec) (hb : c.code = cc) {i : Int32} (hdg : decode cc pc = .ok (.baload, 1)) (k : vx_NoteN p l e R s m args below meth c H locs cells slots Q (F0 m pc ls rest)) : W p l e R s m args below meth c H locs cells slots Q (F0 m pc ls (.int i :: .null :: rest)) := by
  intro T hT X
  obtain ⟨t, st, q⟩ := k T hT X
  exact ⟨t, X.baloadNull hexec (g := F0 m pc ls (.int i :: .null :: rest)) rfl (rest := rest) rfl (by rw [hb]; exact hdg) t st, q⟩
theorem vx_caloadN (hexec : p.tables.exec = Jvm.exec) (hb : c.code = cc) {i : Int32} (hdg : decode cc pc = .ok (.caload, 1)) (k : vx_NoteN p l e R s m args below meth c H locs cells slots Q (F0 m pc ls rest)) : W p l e R s m args below meth c H locs cells slots Q (F0 m pc ls (.int i :: .null :: rest)) := by
  intro T hT X
  obtain ⟨t, st, q⟩ := k T hT X
  exact ⟨t, X.caloadNull hexec (g := F0 m pc ls (.int i :: .null :: rest)) rfl (rest := rest) rfl (by rw [hb]; exact hdg) t st, q⟩
theorem vx_saloadN (hexec : p.tables.exec = Jvm.exec) (hb : c.code = cc) {i : Int32} (hdg : decode cc pc = .ok (.saload, 1)) (k : vx_NoteN p l e R s m args below meth c H locs cells slots Q (F0 m pc ls rest)) : W p l e R s m args below meth c H locs cells slots Q (F0 m pc ls (.int i :: .null :: rest)) := by
  intro T hT X
  obtain ⟨t, st, q⟩ := k T hT X
  exact ⟨t, X.saloadNull hexec (g := F0 m pc ls (.int i :: .null :: rest)) rfl (rest := rest) rfl (by rw [hb]; exact hdg) t st, q⟩
theorem vx_iastoreN (hexec : p.tables.exec = Jvm.exec) (hb : c.code = cc) {x : Int32} {i : Int32} (hdg : decode cc pc = .ok (.iastore, 1)) (k : vx_NoteN p l e R s m args below meth c H locs cells slots Q (F0 m pc ls rest)) : W p l e R s m args below meth c H locs cells slots Q (F0 m pc ls (.int x :: .int i :: .null :: rest)) := by
  intro T hT X
  obtain ⟨t, st, q⟩ := k T hT X
  exact ⟨t, X.iastoreNull hexec (g := F0 m pc ls (.int x :: .int i :: .null :: rest)) rfl (rest := rest) rfl (by rw [hb]; exact hdg) t st, q⟩
theorem vx_lastoreN (hexec : p.tables.exec = Jvm.exec) (hb : c.code = cc) {x : Int64} {i : Int32} (hdg : decode cc pc = .ok (.lastore, 1)) (k : vx_NoteN p l e R s m args below meth c H locs cells slots Q (F0 m pc ls rest)) : W p l e R s m args below meth c H locs cells slots Q (F0 m pc ls (.long x :: .int i :: .null :: rest)) := by
  intro T hT X
  obtain ⟨t, st, q⟩ := k T hT X
  exact ⟨t, X.lastoreNull hexec (g := F0 m pc ls (.long x :: .int i :: .null :: rest)) rfl (rest := rest) rfl (by rw [hb]; exact hdg) t st, q⟩
theorem vx_fastoreN (hexec : p.tables.exec = Jvm.exec) (hb : c.code = cc) {x : UInt32} {i : Int32} (hdg : decode cc pc = .ok (.fastore, 1)) (k : vx_NoteN p l e R s m args below meth c H locs cells slots Q (F0 m pc ls rest)) : W p l e R s m args below meth c H locs cells slots Q (F0 m pc ls (.float x :: .int i :: .null :: rest)) := by
  intro T hT X
  obtain ⟨t, st, q⟩ := k T hT X
  exact ⟨t, X.fastoreNull hexec (g := F0 m pc ls (.float x :: .int i :: .null :: rest)) rfl (rest := rest) rfl (by rw [hb]; exact hdg) t st, q⟩
theorem vx_dastoreN (hexec : p.tables.exec = Jvm.exec) (hb : c.code = cc) {x : UInt64} {i : Int32} (hdg : decode cc pc = .ok (.dastore, 1)) (k : vx_NoteN p l e R s m args below meth c H locs cells slots Q (F0 m pc ls rest)) : W p l e R s m args below meth c H locs cells slots Q (F0 m pc ls (.double x :: .int i :: .null :: rest)) := by
  intro T hT X
  obtain ⟨t, st, q⟩ := k T hT X
  exact ⟨t, X.dastoreNull hexec (g := F0 m pc ls (.double x :: .int i :: .null :: rest)) rfl (rest := rest) rfl (by rw [hb]; exact hdg) t st, q⟩
theorem vx_bastoreN (hexec : p.tables.exec = Jvm.exec) (hb : c.code = cc) {x : Int32} {i : Int32} (hdg : decode cc pc = .ok (.bastore, 1)) (k : vx_NoteN p l e R s m args below meth c H locs cells slots Q (F0 m pc ls rest)) : W p l e R s m args below meth c H locs cells slots Q (F0 m pc ls (.int x :: .int i :: .null :: rest)) := by
  intro T hT X
  obtain ⟨t, st, q⟩ := k T hT X
  exact ⟨t, X.bastoreNull hexec (g := F0 m pc ls (.int x :: .int i :: .null :: rest)) rfl (rest := rest) rfl (by rw [hb]; exact hdg) t st, q⟩
theorem vx_castoreN (hexec : p.tables.exec = Jvm.exec) (hb : c.code = cc) {x : Int32} {i : Int32} (hdg : decode cc pc = .ok (.castore, 1)) (k : vx_NoteN p l e R s m args below meth c H locs cells slots Q (F0 m pc ls rest)) : W p l e R s m args below meth c H locs cells slots Q (F0 m pc ls (.int x :: .int i :: .null :: rest)) := by
  intro T hT X
  obtain ⟨t, st, q⟩ := k T hT X
  exact ⟨t, X.castoreNull hexec (g := F0 m pc ls (.int x :: .int i :: .null :: rest)) rfl (rest := rest) rfl (by rw [hb]; exact hdg) t st, q⟩
theorem vx_sastoreN (hexec : p.tables.exec = Jvm.exec) (hb : c.code = cc) {x : Int32} {i : Int32} (hdg : decode cc pc = .ok (.sastore, 1)) (k : vx_NoteN p l e R s m args below meth c H locs cells slots Q (F0 m pc ls rest)) : W p l e R s m args below meth c H locs cells slots Q (F0 m pc ls (.int x :: .int i :: .null :: rest)) := by
  intro T hT X
  obtain ⟨t, st, q⟩ := k T hT X
  exact ⟨t, X.sastoreNull hexec (g := F0 m pc ls (.int x :: .int i :: .null :: rest)) rfl (rest := rest) rfl (by rw [hb]; exact hdg) t st, q⟩
theorem vx_invokeN {own C : String} {index maxL : Nat} {y : MethodName} {bytes : ByteArray} {ret : Option FieldType} (hexec : p.tables.exec = Jvm.exec) (hb : c.code = cc) (hown : s.vm.findClass own = some m.cls) (hlink : (Cond.methodLink own index y).before args s = true) (hinst : (Cond.instanceMethod y).before args s = true) (hcode : (Cond.code y bytes maxL ret).before args s = true) (hsel : (Cond.selects C y y).before args s = true)
    (hx : y.cls ≠ "java/lang/invoke/MethodHandle" ∧ y.cls ≠ "java/lang/invoke/VarHandle") {As : List Value} (hlen : (parseMethodDescriptor y.desc).map (fun d => d.parameters.length) = some As.length) (hdg : decode cc pc = .ok (.invokevirtual index, 3))
    (k : vx_NoteN p l e R s m args below meth c H locs cells slots Q (F0 m pc ls rest)) {st0 : List Value} (hst : st0 = As.reverse ++ .null :: rest) : W p l e R s m args below meth c H locs cells slots Q (F0 m pc ls st0) := by
  intro T hT X
  obtain ⟨r0, r, hn, hrm, hstR, hsigR⟩ := va_Decl.of hinst hcode
  obtain ⟨c2, r2, m2, q1, q2, q3, q4, kP, hkP, hkPi⟩ := Cond.selects_spec hsel
  cases hn.symm.trans q3
  have hl9 : As.length = r.sig.parameters.length := by
    rw [hsigR] at hlen
    exact (Option.some.inj hlen).symm
  obtain ⟨vm', X1, st1⟩ := X.invokevirtualNull hexec hown hlink hn hrm hstR hkP hkPi hx (g := F0 m pc ls st0) rfl (argsL := As) (rest := rest) hl9 hst (by rw [hb]; exact hdg)
  obtain ⟨t, st, q⟩ := k (T.setVm vm') hT X1
  exact ⟨t, st1 t st, q⟩
theorem vx_newarrayZ {atype : ArrayType} (hexec : p.tables.exec = Jvm.exec) (hb : c.code = cc) {n : Int32} (h0 : n < 0) (hdg : decode cc pc = .ok (.newarray atype, 2)) (k : ∀ tx : String, tx = toString n → vx_Note p l e R s m args below meth c H locs cells slots Q (F0 m pc ls rest) "java/lang/NegativeArraySizeException" tx) : W p l e R s m args below meth c H locs cells slots Q (F0 m pc ls (.int n :: rest)) := by
  intro T hT X
  obtain ⟨t, st, q⟩ := k _ rfl T hT X
  exact ⟨t, X.newarrayNegative hexec (g := F0 m pc ls (.int n :: rest)) rfl h0 (rest := rest) rfl (by rw [hb]; exact hdg) t st, q⟩
end
end VXM
/-! ===== END ===== -/
end
section
/-! ===== BEGIN printed: names, fields, word lists, decode rows ===== -/
def RX0 : String := "MountTable$Backup"
def TX0 : u_T := fun k => match k with
  | 0 => ("MountTable$Backup", "isOfSeen", "Z", true)
  | _ => ("MountTable$Backup", "sizes", "[I", true)
def tyX0 : Nat → FieldType := fun k => match k with
  | 0 => .boolean
  | _ => .array .int
abbrev wsX00 : List Cond := u_ws RX0 TX0 2
theorem nmX0 : ∀ a, a < 2 → ∀ b, b < 2 → a ≠ b → (TX0 a).2.1 ≠ (TX0 b).2.1 := by decide +kernel
theorem tyX0_ok : ∀ k, k < 2 → parseFieldDescriptor (TX0 k).2.2.1 = some (tyX0 k) := by decide +kernel
abbrev cX0_init : ByteArray := prog_2_method_1_code
def yX0_init : MethodName := ⟨RX0, "<init>", "(Z)V"⟩
abbrev cX0_sum : ByteArray := prog_2_method_2_code
def yX0_sum : MethodName := ⟨RX0, "sum", "()I"⟩
def RX1 : String := "MountTable$Layer"
def TX1 : u_T := fun k => match k with
  | 0 => ("MountTable$Layer", "kinds", "[I", true)
  | 1 => ("MountTable$Layer", "owners", "[I", true)
  | 2 => ("MountTable$Layer", "values", "[I", true)
  | _ => ("MountTable$Layer", "isCounted", "[Z", true)
def tyX1 : Nat → FieldType := fun k => match k with
  | 0 => .array .int
  | 1 => .array .int
  | 2 => .array .int
  | _ => .array .boolean
abbrev wsX10 : List Cond := u_ws RX1 TX1 4
theorem nmX1 : ∀ a, a < 4 → ∀ b, b < 4 → a ≠ b → (TX1 a).2.1 ≠ (TX1 b).2.1 := by decide +kernel
theorem tyX1_ok : ∀ k, k < 4 → parseFieldDescriptor (TX1 k).2.2.1 = some (tyX1 k) := by decide +kernel
abbrev cX1_init : ByteArray := prog_3_method_1_code
def yX1_init : MethodName := ⟨RX1, "<init>", "()V"⟩
abbrev cX1_kindAt : ByteArray := prog_3_method_2_code
def yX1_kindAt : MethodName := ⟨RX1, "kindAt", "(I)I"⟩
abbrev cX1_ownerAt : ByteArray := prog_3_method_3_code
def yX1_ownerAt : MethodName := ⟨RX1, "ownerAt", "(I)I"⟩
abbrev cX1_valueAt : ByteArray := prog_3_method_4_code
def yX1_valueAt : MethodName := ⟨RX1, "valueAt", "(I)I"⟩
abbrev cX1_fileSizeAt : ByteArray := prog_3_method_5_code
def yX1_fileSizeAt : MethodName := ⟨RX1, "fileSizeAt", "(I)I"⟩
abbrev cX1_bytesAt : ByteArray := prog_3_method_6_code
def yX1_bytesAt : MethodName := ⟨RX1, "bytesAt", "(I)I"⟩
abbrev cX1_bytesOfOwnerAt : ByteArray := prog_3_method_7_code
def yX1_bytesOfOwnerAt : MethodName := ⟨RX1, "bytesOfOwnerAt", "(II)I"⟩
abbrev cX1_put : ByteArray := prog_3_method_8_code
def yX1_put : MethodName := ⟨RX1, "put", "(IIII)V"⟩
abbrev cX1_countOf : ByteArray := prog_3_method_9_code
def yX1_countOf : MethodName := ⟨RX1, "countOf", "(I)I"⟩
abbrev cX1_bytesOfOwner : ByteArray := prog_3_method_10_code
def yX1_bytesOfOwner : MethodName := ⟨RX1, "bytesOfOwner", "(I)I"⟩
abbrev cX1_allBytesOfFiles : ByteArray := prog_3_method_11_code
def yX1_allBytesOfFiles : MethodName := ⟨RX1, "allBytesOfFiles", "()I"⟩
abbrev cX1_forgetCounted : ByteArray := prog_3_method_12_code
def yX1_forgetCounted : MethodName := ⟨RX1, "forgetCounted", "()V"⟩
abbrev cX1_bytesNotYetCounted : ByteArray := prog_3_method_13_code
def yX1_bytesNotYetCounted : MethodName := ⟨RX1, "bytesNotYetCounted", "(I)I"⟩
def RX2 : String := "MountTable$Mount"
def TX2 : u_T := fun k => match k with
  | 0 => ("MountTable$Mount", "lower", "I", true)
  | 1 => ("MountTable$Mount", "upper", "I", true)
  | 2 => ("MountTable$Mount", "point", "I", false)
  | 3 => ("MountTable$Mount", "isThere", "Z", false)
  | _ => ("MountTable$Mount", "isCrossing", "Z", false)
def tyX2 : Nat → FieldType := fun k => match k with
  | 0 => .int
  | 1 => .int
  | 2 => .int
  | 3 => .boolean
  | _ => .boolean
abbrev wsX20 : List Cond := u_ws RX2 TX2 5
theorem nmX2 : ∀ a, a < 5 → ∀ b, b < 5 → a ≠ b → (TX2 a).2.1 ≠ (TX2 b).2.1 := by decide +kernel
theorem tyX2_ok : ∀ k, k < 5 → parseFieldDescriptor (TX2 k).2.2.1 = some (tyX2 k) := by decide +kernel
abbrev cX2_init : ByteArray := prog_4_method_1_code
def yX2_init : MethodName := ⟨RX2, "<init>", "(III)V"⟩
abbrev cX2_written : ByteArray := prog_4_method_2_code
def yX2_written : MethodName := ⟨RX2, "written", "()I"⟩
def RX3 : String := "MountTable"
def TX3 : u_T := fun k => match k with
  | 0 => ("MountTable", "layers", "[LMountTable$Layer;", true)
  | 1 => ("MountTable", "mounts", "[LMountTable$Mount;", true)
  | 2 => ("MountTable", "backups", "[LMountTable$Backup;", true)
  | 3 => ("MountTable", "used", "[I", true)
  | 4 => ("MountTable", "quotas", "[I", true)
  | 5 => ("MountTable", "servers", "[I", true)
  | 6 => ("MountTable", "rests", "[I", true)
  | 7 => ("MountTable", "layerCount", "I", false)
  | 8 => ("MountTable", "mountCount", "I", false)
  | 9 => ("MountTable", "backupCount", "I", false)
  | _ => ("MountTable", "copyCount", "I", false)
def tyX3 : Nat → FieldType := fun k => match k with
  | 0 => .array (.object "MountTable$Layer")
  | 1 => .array (.object "MountTable$Mount")
  | 2 => .array (.object "MountTable$Backup")
  | 3 => .array .int
  | 4 => .array .int
  | 5 => .array .int
  | 6 => .array .int
  | 7 => .int
  | 8 => .int
  | 9 => .int
  | _ => .int
abbrev wsX30 : List Cond := u_ws RX3 TX3 11
theorem nmX3 : ∀ a, a < 11 → ∀ b, b < 11 → a ≠ b → (TX3 a).2.1 ≠ (TX3 b).2.1 := by decide +kernel
theorem tyX3_ok : ∀ k, k < 11 → parseFieldDescriptor (TX3 k).2.2.1 = some (tyX3 k) := by decide +kernel
abbrev cX3_init : ByteArray := prog_1_method_1_code
def yX3_init : MethodName := ⟨RX3, "<init>", "()V"⟩
abbrev cX3_addLayer : ByteArray := prog_1_method_2_code
def yX3_addLayer : MethodName := ⟨RX3, "addLayer", "()I"⟩
abbrev cX3_mount : ByteArray := prog_1_method_3_code
def yX3_mount : MethodName := ⟨RX3, "mount", "(III)I"⟩
abbrev cX3_unmount : ByteArray := prog_1_method_4_code
def yX3_unmount : MethodName := ⟨RX3, "unmount", "(I)I"⟩
abbrev cX3_move : ByteArray := prog_1_method_5_code
def yX3_move : MethodName := ⟨RX3, "move", "(II)I"⟩
abbrev cX3_setCrossing : ByteArray := prog_1_method_6_code
def yX3_setCrossing : MethodName := ⟨RX3, "setCrossing", "(IZ)Z"⟩
abbrev cX3_served : ByteArray := prog_1_method_7_code
def yX3_served : MethodName := ⟨RX3, "served", "(I)I"⟩
abbrev cX3_covered : ByteArray := prog_1_method_8_code
def yX3_covered : MethodName := ⟨RX3, "covered", "()I"⟩
abbrev cX3_write : ByteArray := prog_1_method_9_code
def yX3_write : MethodName := ⟨RX3, "write", "(III)I"⟩
abbrev cX3_link : ByteArray := prog_1_method_10_code
def yX3_link : MethodName := ⟨RX3, "link", "(III)I"⟩
abbrev cX3_remove : ByteArray := prog_1_method_11_code
def yX3_remove : MethodName := ⟨RX3, "remove", "(I)I"⟩
abbrev cX3_shows : ByteArray := prog_1_method_12_code
def yX3_shows : MethodName := ⟨RX3, "shows", "(I)C"⟩
abbrev cX3_layerOf : ByteArray := prog_1_method_13_code
def yX3_layerOf : MethodName := ⟨RX3, "layerOf", "(I)I"⟩
abbrev cX3_end : ByteArray := prog_1_method_14_code
def yX3_end : MethodName := ⟨RX3, "end", "(I)I"⟩
abbrev cX3_size : ByteArray := prog_1_method_15_code
def yX3_size : MethodName := ⟨RX3, "size", "(I)I"⟩
abbrev cX3_sizeByWalking : ByteArray := prog_1_method_16_code
def yX3_sizeByWalking : MethodName := ⟨RX3, "sizeByWalking", "(I)I"⟩
abbrev cX3_ownerOf : ByteArray := prog_1_method_17_code
def yX3_ownerOf : MethodName := ⟨RX3, "ownerOf", "(I)I"⟩
abbrev cX3_setQuota : ByteArray := prog_1_method_18_code
def yX3_setQuota : MethodName := ⟨RX3, "setQuota", "(II)I"⟩
abbrev cX3_used : ByteArray := prog_1_method_19_code
def yX3_used : MethodName := ⟨RX3, "used", "(I)I"⟩
abbrev cX3_usedByLayers : ByteArray := prog_1_method_20_code
def yX3_usedByLayers : MethodName := ⟨RX3, "usedByLayers", "(I)I"⟩
abbrev cX3_hidden : ByteArray := prog_1_method_21_code
def yX3_hidden : MethodName := ⟨RX3, "hidden", "()I"⟩
abbrev cX3_copies : ByteArray := prog_1_method_22_code
def yX3_copies : MethodName := ⟨RX3, "copies", "()I"⟩
abbrev cX3_whiteouts : ByteArray := prog_1_method_23_code
def yX3_whiteouts : MethodName := ⟨RX3, "whiteouts", "(I)I"⟩
abbrev cX3_backUp : ByteArray := prog_1_method_24_code
def yX3_backUp : MethodName := ⟨RX3, "backUp", "(Z)I"⟩
abbrev cX3_bytes : ByteArray := prog_1_method_25_code
def yX3_bytes : MethodName := ⟨RX3, "bytes", "(I)I"⟩
abbrev cX3_differences : ByteArray := prog_1_method_26_code
def yX3_differences : MethodName := ⟨RX3, "differences", "(I)I"⟩
abbrev cX3_shownShare : ByteArray := prog_1_method_27_code
def yX3_shownShare : MethodName := ⟨RX3, "shownShare", "()F"⟩
abbrev cX3_meanSize : ByteArray := prog_1_method_28_code
def yX3_meanSize : MethodName := ⟨RX3, "meanSize", "(I)D"⟩
abbrev cX3_placeOf : ByteArray := prog_1_method_29_code
def yX3_placeOf : MethodName := ⟨RX3, "placeOf", "(I)I"⟩
abbrev cX3_isPlace : ByteArray := prog_1_method_30_code
def yX3_isPlace : MethodName := ⟨RX3, "isPlace", "(I)Z"⟩
abbrev cX3_checkedPlace : ByteArray := prog_1_method_31_code
def yX3_checkedPlace : MethodName := ⟨RX3, "checkedPlace", "(I)I"⟩
abbrev cX3_restBehind : ByteArray := prog_1_method_32_code
def yX3_restBehind : MethodName := ⟨RX3, "restBehind", "(II)I"⟩
abbrev cX3_isOwner : ByteArray := prog_1_method_33_code
def yX3_isOwner : MethodName := ⟨RX3, "isOwner", "(I)Z"⟩
abbrev cX3_checkOwner : ByteArray := prog_1_method_34_code
def yX3_checkOwner : MethodName := ⟨RX3, "checkOwner", "(I)V"⟩
abbrev cX3_usedBy : ByteArray := prog_1_method_35_code
def yX3_usedBy : MethodName := ⟨RX3, "usedBy", "(I)I"⟩
abbrev cX3_quotaOf : ByteArray := prog_1_method_36_code
def yX3_quotaOf : MethodName := ⟨RX3, "quotaOf", "(I)I"⟩
abbrev cX3_use : ByteArray := prog_1_method_37_code
def yX3_use : MethodName := ⟨RX3, "use", "(II)V"⟩
abbrev cX3_allBytes : ByteArray := prog_1_method_38_code
def yX3_allBytes : MethodName := ⟨RX3, "allBytes", "()I"⟩
abbrev cX3_layerAt : ByteArray := prog_1_method_39_code
def yX3_layerAt : MethodName := ⟨RX3, "layerAt", "(I)LMountTable$Layer;"⟩
abbrev cX3_checkedLayer : ByteArray := prog_1_method_40_code
def yX3_checkedLayer : MethodName := ⟨RX3, "checkedLayer", "(I)LMountTable$Layer;"⟩
abbrev cX3_mountThere : ByteArray := prog_1_method_41_code
def yX3_mountThere : MethodName := ⟨RX3, "mountThere", "(I)LMountTable$Mount;"⟩
abbrev cX3_checkedMount : ByteArray := prog_1_method_42_code
def yX3_checkedMount : MethodName := ⟨RX3, "checkedMount", "(I)LMountTable$Mount;"⟩
abbrev cX3_checkedBackup : ByteArray := prog_1_method_43_code
def yX3_checkedBackup : MethodName := ⟨RX3, "checkedBackup", "(I)LMountTable$Backup;"⟩
abbrev cX3_isUpperOfSome : ByteArray := prog_1_method_44_code
def yX3_isUpperOfSome : MethodName := ⟨RX3, "isUpperOfSome", "(I)Z"⟩
abbrev cX3_isInSome : ByteArray := prog_1_method_45_code
def yX3_isInSome : MethodName := ⟨RX3, "isInSome", "(I)Z"⟩
abbrev cX3_serveAgain : ByteArray := prog_1_method_46_code
def yX3_serveAgain : MethodName := ⟨RX3, "serveAgain", "()V"⟩
abbrev cX3_serveBehind : ByteArray := prog_1_method_47_code
def yX3_serveBehind : MethodName := ⟨RX3, "serveBehind", "(II)V"⟩
abbrev cX3_serverAt : ByteArray := prog_1_method_48_code
def yX3_serverAt : MethodName := ⟨RX3, "serverAt", "(I)I"⟩
abbrev cX3_restAt : ByteArray := prog_1_method_49_code
def yX3_restAt : MethodName := ⟨RX3, "restAt", "(I)I"⟩
abbrev cX3_isThing : ByteArray := prog_1_method_50_code
def yX3_isThing : MethodName := ⟨RX3, "isThing", "(I)Z"⟩
abbrev cX3_kindIn : ByteArray := prog_1_method_51_code
def yX3_kindIn : MethodName := ⟨RX3, "kindIn", "(II)I"⟩
abbrev cX3_fileSizeIn : ByteArray := prog_1_method_52_code
def yX3_fileSizeIn : MethodName := ⟨RX3, "fileSizeIn", "(II)I"⟩
abbrev cX3_layerShownBy : ByteArray := prog_1_method_53_code
def yX3_layerShownBy : MethodName := ⟨RX3, "layerShownBy", "(LMountTable$Mount;I)I"⟩
abbrev cX3_layerShown : ByteArray := prog_1_method_54_code
def yX3_layerShown : MethodName := ⟨RX3, "layerShown", "(I)I"⟩
abbrev cX3_checkedShown : ByteArray := prog_1_method_55_code
def yX3_checkedShown : MethodName := ⟨RX3, "checkedShown", "(I)LMountTable$Layer;"⟩
abbrev cX3_shownFileSize : ByteArray := prog_1_method_56_code
def yX3_shownFileSize : MethodName := ⟨RX3, "shownFileSize", "(I)I"⟩
abbrev cX3_shownBytes : ByteArray := prog_1_method_57_code
def yX3_shownBytes : MethodName := ⟨RX3, "shownBytes", "()I"⟩
abbrev cX3_sizeNow : ByteArray := prog_1_method_58_code
def yX3_sizeNow : MethodName := ⟨RX3, "sizeNow", "(ZI)I"⟩
abbrev cX3_endOfLinks : ByteArray := prog_1_method_59_code
def yX3_endOfLinks : MethodName := ⟨RX3, "endOfLinks", "(I)I"⟩
abbrev cX3_mayLead : ByteArray := prog_1_method_60_code
def yX3_mayLead : MethodName := ⟨RX3, "mayLead", "(II)Z"⟩
abbrev cX3_layerToWrite : ByteArray := prog_1_method_61_code
def yX3_layerToWrite : MethodName := ⟨RX3, "layerToWrite", "(I)LMountTable$Layer;"⟩
abbrev cX3_putAt : ByteArray := prog_1_method_62_code
def yX3_putAt : MethodName := ⟨RX3, "putAt", "(ILMountTable$Layer;III)V"⟩
abbrev cX3_change : ByteArray := prog_1_method_63_code
def yX3_change : MethodName := ⟨RX3, "change", "(LMountTable$Layer;IIII)V"⟩
def RX4 : String := "MountTableModel"
def TX4 : u_T := fun k => match k with
  | 0 => ("MountTableModel", "kinds", "[I", true)
  | 1 => ("MountTableModel", "owners", "[I", true)
  | 2 => ("MountTableModel", "values", "[I", true)
  | 3 => ("MountTableModel", "layers", "I", false)
  | 4 => ("MountTableModel", "points", "[I", true)
  | 5 => ("MountTableModel", "lowers", "[I", true)
  | 6 => ("MountTableModel", "uppers", "[I", true)
  | 7 => ("MountTableModel", "isThere", "[Z", true)
  | 8 => ("MountTableModel", "isCrossing", "[Z", true)
  | 9 => ("MountTableModel", "mounts", "I", false)
  | 10 => ("MountTableModel", "quotas", "[I", true)
  | 11 => ("MountTableModel", "copies", "I", false)
  | 12 => ("MountTableModel", "kept", "[I", true)
  | 13 => ("MountTableModel", "isSeen", "[Z", true)
  | 14 => ("MountTableModel", "backups", "I", false)
  | _ => ("MountTableModel", "thrown", "I", false)
def tyX4 : Nat → FieldType := fun k => match k with
  | 0 => .array .int
  | 1 => .array .int
  | 2 => .array .int
  | 3 => .int
  | 4 => .array .int
  | 5 => .array .int
  | 6 => .array .int
  | 7 => .array .boolean
  | 8 => .array .boolean
  | 9 => .int
  | 10 => .array .int
  | 11 => .int
  | 12 => .array .int
  | 13 => .array .boolean
  | 14 => .int
  | _ => .int
abbrev wsX40 : List Cond := u_ws RX4 TX4 16
theorem nmX4 : ∀ a, a < 16 → ∀ b, b < 16 → a ≠ b → (TX4 a).2.1 ≠ (TX4 b).2.1 := by decide +kernel
theorem tyX4_ok : ∀ k, k < 16 → parseFieldDescriptor (TX4 k).2.2.1 = some (tyX4 k) := by decide +kernel
abbrev cX4_init : ByteArray := prog_6_method_1_code
def yX4_init : MethodName := ⟨RX4, "<init>", "()V"⟩
abbrev cX4_thrown : ByteArray := prog_6_method_2_code
def yX4_thrown : MethodName := ⟨RX4, "thrown", "()I"⟩
abbrev cX4_in : ByteArray := prog_6_method_3_code
def yX4_in : MethodName := ⟨RX4, "in", "(JJJ)Z"⟩
abbrev cX4_isPath : ByteArray := prog_6_method_4_code
def yX4_isPath : MethodName := ⟨RX4, "isPath", "(I)Z"⟩
abbrev cX4_digits : ByteArray := prog_6_method_5_code
def yX4_digits : MethodName := ⟨RX4, "digits", "(I)I"⟩
abbrev cX4_power : ByteArray := prog_6_method_6_code
def yX4_power : MethodName := ⟨RX4, "power", "(II)I"⟩
abbrev cX4_rank : ByteArray := prog_6_method_7_code
def yX4_rank : MethodName := ⟨RX4, "rank", "(I)I"⟩
abbrev cX4_pathOf : ByteArray := prog_6_method_8_code
def yX4_pathOf : MethodName := ⟨RX4, "pathOf", "(I)I"⟩
abbrev cX4_begins : ByteArray := prog_6_method_9_code
def yX4_begins : MethodName := ⟨RX4, "begins", "(II)Z"⟩
abbrev cX4_rest : ByteArray := prog_6_method_10_code
def yX4_rest : MethodName := ⟨RX4, "rest", "(II)I"⟩
abbrev cX4_addLayer : ByteArray := prog_6_method_11_code
def yX4_addLayer : MethodName := ⟨RX4, "addLayer", "()I"⟩
abbrev cX4_isLayer : ByteArray := prog_6_method_12_code
def yX4_isLayer : MethodName := ⟨RX4, "isLayer", "(I)Z"⟩
abbrev cX4_isUpper : ByteArray := prog_6_method_13_code
def yX4_isUpper : MethodName := ⟨RX4, "isUpper", "(I)Z"⟩
abbrev cX4_isUsed : ByteArray := prog_6_method_14_code
def yX4_isUsed : MethodName := ⟨RX4, "isUsed", "(I)Z"⟩
abbrev cX4_mount : ByteArray := prog_6_method_15_code
def yX4_mount : MethodName := ⟨RX4, "mount", "(III)I"⟩
abbrev cX4_isMount : ByteArray := prog_6_method_16_code
def yX4_isMount : MethodName := ⟨RX4, "isMount", "(I)Z"⟩
abbrev cX4_unmount : ByteArray := prog_6_method_17_code
def yX4_unmount : MethodName := ⟨RX4, "unmount", "(I)I"⟩
abbrev cX4_move : ByteArray := prog_6_method_18_code
def yX4_move : MethodName := ⟨RX4, "move", "(II)I"⟩
abbrev cX4_setCrossing : ByteArray := prog_6_method_19_code
def yX4_setCrossing : MethodName := ⟨RX4, "setCrossing", "(IZ)Z"⟩
abbrev cX4_servedBy : ByteArray := prog_6_method_20_code
def yX4_servedBy : MethodName := ⟨RX4, "servedBy", "(I)I"⟩
abbrev cX4_served : ByteArray := prog_6_method_21_code
def yX4_served : MethodName := ⟨RX4, "served", "(I)I"⟩
abbrev cX4_covered : ByteArray := prog_6_method_22_code
def yX4_covered : MethodName := ⟨RX4, "covered", "()I"⟩
abbrev cX4_shown : ByteArray := prog_6_method_23_code
def yX4_shown : MethodName := ⟨RX4, "shown", "(I)I"⟩
abbrev cX4_used : ByteArray := prog_6_method_24_code
def yX4_used : MethodName := ⟨RX4, "used", "(II)I"⟩
abbrev cX4_isOwner : ByteArray := prog_6_method_25_code
def yX4_isOwner : MethodName := ⟨RX4, "isOwner", "(I)Z"⟩
abbrev cX4_canWrite : ByteArray := prog_6_method_26_code
def yX4_canWrite : MethodName := ⟨RX4, "canWrite", "(I)Z"⟩
abbrev cX4_target : ByteArray := prog_6_method_27_code
def yX4_target : MethodName := ⟨RX4, "target", "(I)I"⟩
abbrev cX4_puts : ByteArray := prog_6_method_28_code
def yX4_puts : MethodName := ⟨RX4, "puts", "(IIII)V"⟩
abbrev cX4_write : ByteArray := prog_6_method_29_code
def yX4_write : MethodName := ⟨RX4, "write", "(III)I"⟩
abbrev cX4_link : ByteArray := prog_6_method_30_code
def yX4_link : MethodName := ⟨RX4, "link", "(III)I"⟩
abbrev cX4_asks : ByteArray := prog_6_method_31_code
def yX4_asks : MethodName := ⟨RX4, "asks", "(I)Z"⟩
abbrev cX4_remove : ByteArray := prog_6_method_32_code
def yX4_remove : MethodName := ⟨RX4, "remove", "(I)I"⟩
abbrev cX4_shows : ByteArray := prog_6_method_33_code
def yX4_shows : MethodName := ⟨RX4, "shows", "(I)C"⟩
abbrev cX4_asksShown : ByteArray := prog_6_method_34_code
def yX4_asksShown : MethodName := ⟨RX4, "asksShown", "(I)Z"⟩
abbrev cX4_layerOf : ByteArray := prog_6_method_35_code
def yX4_layerOf : MethodName := ⟨RX4, "layerOf", "(I)I"⟩
abbrev cX4_end : ByteArray := prog_6_method_36_code
def yX4_end : MethodName := ⟨RX4, "end", "(I)I"⟩
abbrev cX4_size : ByteArray := prog_6_method_37_code
def yX4_size : MethodName := ⟨RX4, "size", "(I)I"⟩
abbrev cX4_sizeByWalking : ByteArray := prog_6_method_38_code
def yX4_sizeByWalking : MethodName := ⟨RX4, "sizeByWalking", "(I)I"⟩
abbrev cX4_ownerOf : ByteArray := prog_6_method_39_code
def yX4_ownerOf : MethodName := ⟨RX4, "ownerOf", "(I)I"⟩
abbrev cX4_setQuota : ByteArray := prog_6_method_40_code
def yX4_setQuota : MethodName := ⟨RX4, "setQuota", "(II)I"⟩
abbrev cX4_used_ : ByteArray := prog_6_method_41_code
def yX4_used_ : MethodName := ⟨RX4, "used", "(I)I"⟩
abbrev cX4_usedByLayers : ByteArray := prog_6_method_42_code
def yX4_usedByLayers : MethodName := ⟨RX4, "usedByLayers", "(I)I"⟩
abbrev cX4_bytesOfAll : ByteArray := prog_6_method_43_code
def yX4_bytesOfAll : MethodName := ⟨RX4, "bytesOfAll", "()I"⟩
abbrev cX4_bytesShown : ByteArray := prog_6_method_44_code
def yX4_bytesShown : MethodName := ⟨RX4, "bytesShown", "()I"⟩
abbrev cX4_hidden : ByteArray := prog_6_method_45_code
def yX4_hidden : MethodName := ⟨RX4, "hidden", "()I"⟩
abbrev cX4_copies : ByteArray := prog_6_method_46_code
def yX4_copies : MethodName := ⟨RX4, "copies", "()I"⟩
abbrev cX4_count : ByteArray := prog_6_method_47_code
def yX4_count : MethodName := ⟨RX4, "count", "(II)I"⟩
abbrev cX4_whiteouts : ByteArray := prog_6_method_48_code
def yX4_whiteouts : MethodName := ⟨RX4, "whiteouts", "(I)I"⟩
abbrev cX4_nowAt : ByteArray := prog_6_method_49_code
def yX4_nowAt : MethodName := ⟨RX4, "nowAt", "(ZI)I"⟩
abbrev cX4_backUp : ByteArray := prog_6_method_50_code
def yX4_backUp : MethodName := ⟨RX4, "backUp", "(Z)I"⟩
abbrev cX4_isBackup : ByteArray := prog_6_method_51_code
def yX4_isBackup : MethodName := ⟨RX4, "isBackup", "(I)Z"⟩
abbrev cX4_bytes : ByteArray := prog_6_method_52_code
def yX4_bytes : MethodName := ⟨RX4, "bytes", "(I)I"⟩
abbrev cX4_differences : ByteArray := prog_6_method_53_code
def yX4_differences : MethodName := ⟨RX4, "differences", "(I)I"⟩
abbrev cX4_shownShare : ByteArray := prog_6_method_54_code
def yX4_shownShare : MethodName := ⟨RX4, "shownShare", "()F"⟩
abbrev cX4_meanSize : ByteArray := prog_6_method_55_code
def yX4_meanSize : MethodName := ⟨RX4, "meanSize", "(I)D"⟩
def RJx00060 : String := "java/lang/ArrayIndexOutOfBoundsException"
def TJx00060 : u_T := fun k => match k with
  | 0 => ("java/lang/Throwable", "backtrace", "Ljava/lang/Object;", false)
  | 1 => ("java/lang/Throwable", "detailMessage", "Ljava/lang/String;", false)
  | 2 => ("java/lang/Throwable", "cause", "Ljava/lang/Throwable;", false)
  | 3 => ("java/lang/Throwable", "stackTrace", "[Ljava/lang/StackTraceElement;", false)
  | 4 => ("java/lang/Throwable", "depth", "I", false)
  | _ => ("java/lang/Throwable", "suppressedExceptions", "Ljava/util/List;", false)
def tyJx00060 : Nat → FieldType := fun k => match k with
  | 0 => .object "java/lang/Object"
  | 1 => .object "java/lang/String"
  | 2 => .object "java/lang/Throwable"
  | 3 => .array (.object "java/lang/StackTraceElement")
  | 4 => .int
  | _ => .object "java/util/List"
abbrev wsJx000600 : List Cond := u_ws RJx00060 TJx00060 6
theorem nmJx00060 : ∀ a, a < 6 → ∀ b, b < 6 → a ≠ b → (TJx00060 a).2.1 ≠ (TJx00060 b).2.1 := by decide +kernel
theorem tyJx00060_ok : ∀ k, k < 6 → parseFieldDescriptor (TJx00060 k).2.2.1 = some (tyJx00060 k) := by decide +kernel
abbrev cJx00060_init_a7421 : ByteArray := prog_8_method_2_code
def yJx00060_init_a7421 : MethodName := ⟨RJx00060, "<init>", "(Ljava/lang/String;)V"⟩
def RJ0 : String := "java/lang/String"
def TJ0 : u_T := fun k => match k with
  | 0 => ("java/lang/String", "value", "[B", true)
  | _ => ("java/lang/String", "coder", "B", true)
def tyJ0 : Nat → FieldType := fun k => match k with
  | 0 => .array .byte
  | _ => .byte
abbrev wsJ00 : List Cond := u_ws RJ0 TJ0 2
theorem nmJ0 : ∀ a, a < 2 → ∀ b, b < 2 → a ≠ b → (TJ0 a).2.1 ≠ (TJ0 b).2.1 := by decide +kernel
theorem tyJ0_ok : ∀ k, k < 2 → parseFieldDescriptor (TJ0 k).2.2.1 = some (tyJ0 k) := by decide +kernel
def RL : String := "MountTableLaw"
abbrev cL_addLayer : ByteArray := method_3_code
def yL_addLayer : MethodName := ⟨RL, "addLayer", "(LMountTable;[J)I"⟩
abbrev cL_mount : ByteArray := method_4_code
def yL_mount : MethodName := ⟨RL, "mount", "(LMountTable;III[J)I"⟩
abbrev cL_unmount : ByteArray := method_5_code
def yL_unmount : MethodName := ⟨RL, "unmount", "(LMountTable;I[J)I"⟩
abbrev cL_move : ByteArray := method_6_code
def yL_move : MethodName := ⟨RL, "move", "(LMountTable;II[J)I"⟩
abbrev cL_setCrossing : ByteArray := method_7_code
def yL_setCrossing : MethodName := ⟨RL, "setCrossing", "(LMountTable;IZ[J)I"⟩
abbrev cL_served : ByteArray := method_8_code
def yL_served : MethodName := ⟨RL, "served", "(LMountTable;I[J)I"⟩
abbrev cL_write : ByteArray := method_9_code
def yL_write : MethodName := ⟨RL, "write", "(LMountTable;III[J)I"⟩
abbrev cL_link : ByteArray := method_10_code
def yL_link : MethodName := ⟨RL, "link", "(LMountTable;III[J)I"⟩
abbrev cL_remove : ByteArray := method_11_code
def yL_remove : MethodName := ⟨RL, "remove", "(LMountTable;I[J)I"⟩
abbrev cL_shows : ByteArray := method_12_code
def yL_shows : MethodName := ⟨RL, "shows", "(LMountTable;I[J)I"⟩
abbrev cL_layerOf : ByteArray := method_13_code
def yL_layerOf : MethodName := ⟨RL, "layerOf", "(LMountTable;I[J)I"⟩
abbrev cL_end : ByteArray := method_14_code
def yL_end : MethodName := ⟨RL, "end", "(LMountTable;I[J)I"⟩
abbrev cL_size : ByteArray := method_15_code
def yL_size : MethodName := ⟨RL, "size", "(LMountTable;I[J)I"⟩
abbrev cL_sizeByWalking : ByteArray := method_16_code
def yL_sizeByWalking : MethodName := ⟨RL, "sizeByWalking", "(LMountTable;I[J)I"⟩
abbrev cL_ownerOf : ByteArray := method_17_code
def yL_ownerOf : MethodName := ⟨RL, "ownerOf", "(LMountTable;I[J)I"⟩
abbrev cL_setQuota : ByteArray := method_18_code
def yL_setQuota : MethodName := ⟨RL, "setQuota", "(LMountTable;II[J)I"⟩
abbrev cL_used : ByteArray := method_19_code
def yL_used : MethodName := ⟨RL, "used", "(LMountTable;I[J)I"⟩
abbrev cL_usedByLayers : ByteArray := method_20_code
def yL_usedByLayers : MethodName := ⟨RL, "usedByLayers", "(LMountTable;I[J)I"⟩
abbrev cL_whiteouts : ByteArray := method_21_code
def yL_whiteouts : MethodName := ⟨RL, "whiteouts", "(LMountTable;I[J)I"⟩
abbrev cL_backUp : ByteArray := method_22_code
def yL_backUp : MethodName := ⟨RL, "backUp", "(LMountTable;Z[J)I"⟩
abbrev cL_bytes : ByteArray := method_23_code
def yL_bytes : MethodName := ⟨RL, "bytes", "(LMountTable;I[J)I"⟩
abbrev cL_differences : ByteArray := method_24_code
def yL_differences : MethodName := ⟨RL, "differences", "(LMountTable;I[J)I"⟩
abbrev cL_shownShare : ByteArray := method_25_code
def yL_shownShare : MethodName := ⟨RL, "shownShare", "(LMountTable;[D)I"⟩
abbrev cL_meanSize : ByteArray := method_26_code
def yL_meanSize : MethodName := ⟨RL, "meanSize", "(LMountTable;I[D)I"⟩
abbrev cL_law : ByteArray := code
def yL_law : MethodName := ⟨RL, "law", "([I)Z"⟩
abbrev vwCl : List vw_C := [(RJ0, TJ0, 2), (RJx00060, TJx00060, 6), (RX0, TX0, 2), (RX1, TX1, 4), (RX2, TX2, 5), (RX3, TX3, 11), (RX4, TX4, 16)]
end
section
theorem dX0_init_0 : decode cX0_init 0 = .ok (.aload_n 0, 1) := by decide +kernel
theorem dX0_init_1 : decode cX0_init 1 = .ok (.invokespecial 3, 3) := by decide +kernel
theorem dX0_init_4 : decode cX0_init 4 = .ok (.aload_n 0, 1) := by decide +kernel
theorem dX0_init_5 : decode cX0_init 5 = .ok (.iload_n 1, 1) := by decide +kernel
theorem dX0_init_6 : decode cX0_init 6 = .ok (.putfield 9, 3) := by decide +kernel
theorem dX0_init_9 : decode cX0_init 9 = .ok (.aload_n 0, 1) := by decide +kernel
theorem dX0_init_10 : decode cX0_init 10 = .ok (.iload_n 1, 1) := by decide +kernel
theorem dX0_init_11 : decode cX0_init 11 = .ok (.ifCond .eq 9, 3) := by decide +kernel
theorem dX0_init_14 : decode cX0_init 14 = .ok (.sipush 341, 3) := by decide +kernel
theorem dX0_init_17 : decode cX0_init 17 = .ok (.goto 6, 3) := by decide +kernel
theorem dX0_init_20 : decode cX0_init 20 = .ok (.sipush 2046, 3) := by decide +kernel
theorem dX0_init_23 : decode cX0_init 23 = .ok (.newarray .int, 2) := by decide +kernel
theorem dX0_init_25 : decode cX0_init 25 = .ok (.putfield 15, 3) := by decide +kernel
theorem dX0_init_28 : decode cX0_init 28 = .ok (.return_, 1) := by decide +kernel
theorem dX0_sum_0 : decode cX0_sum 0 = .ok (.iconst 0, 1) := by decide +kernel
theorem dX0_sum_1 : decode cX0_sum 1 = .ok (.istore_n 1, 1) := by decide +kernel
theorem dX0_sum_2 : decode cX0_sum 2 = .ok (.iconst 0, 1) := by decide +kernel
theorem dX0_sum_3 : decode cX0_sum 3 = .ok (.istore_n 2, 1) := by decide +kernel
theorem dX0_sum_4 : decode cX0_sum 4 = .ok (.iload_n 2, 1) := by decide +kernel
theorem dX0_sum_5 : decode cX0_sum 5 = .ok (.aload_n 0, 1) := by decide +kernel
theorem dX0_sum_6 : decode cX0_sum 6 = .ok (.getfield 15, 3) := by decide +kernel
theorem dX0_sum_9 : decode cX0_sum 9 = .ok (.arraylength, 1) := by decide +kernel
theorem dX0_sum_10 : decode cX0_sum 10 = .ok (.if_icmp .ge 32, 3) := by decide +kernel
theorem dX0_sum_13 : decode cX0_sum 13 = .ok (.iload_n 1, 1) := by decide +kernel
theorem dX0_sum_14 : decode cX0_sum 14 = .ok (.aload_n 0, 1) := by decide +kernel
theorem dX0_sum_15 : decode cX0_sum 15 = .ok (.getfield 15, 3) := by decide +kernel
theorem dX0_sum_18 : decode cX0_sum 18 = .ok (.iload_n 2, 1) := by decide +kernel
theorem dX0_sum_19 : decode cX0_sum 19 = .ok (.iaload, 1) := by decide +kernel
theorem dX0_sum_20 : decode cX0_sum 20 = .ok (.iconst (-1), 1) := by decide +kernel
theorem dX0_sum_21 : decode cX0_sum 21 = .ok (.if_icmp .ne 7, 3) := by decide +kernel
theorem dX0_sum_24 : decode cX0_sum 24 = .ok (.iconst 0, 1) := by decide +kernel
theorem dX0_sum_25 : decode cX0_sum 25 = .ok (.goto 9, 3) := by decide +kernel
theorem dX0_sum_28 : decode cX0_sum 28 = .ok (.aload_n 0, 1) := by decide +kernel
theorem dX0_sum_29 : decode cX0_sum 29 = .ok (.getfield 15, 3) := by decide +kernel
theorem dX0_sum_32 : decode cX0_sum 32 = .ok (.iload_n 2, 1) := by decide +kernel
theorem dX0_sum_33 : decode cX0_sum 33 = .ok (.iaload, 1) := by decide +kernel
theorem dX0_sum_34 : decode cX0_sum 34 = .ok (.iadd, 1) := by decide +kernel
theorem dX0_sum_35 : decode cX0_sum 35 = .ok (.istore_n 1, 1) := by decide +kernel
theorem dX0_sum_36 : decode cX0_sum 36 = .ok (.iinc 2 1, 3) := by decide +kernel
theorem dX0_sum_39 : decode cX0_sum 39 = .ok (.goto (-35), 3) := by decide +kernel
theorem dX0_sum_42 : decode cX0_sum 42 = .ok (.iload_n 1, 1) := by decide +kernel
theorem dX0_sum_43 : decode cX0_sum 43 = .ok (.ireturn, 1) := by decide +kernel
theorem dX1_init_0 : decode cX1_init 0 = .ok (.aload_n 0, 1) := by decide +kernel
theorem dX1_init_1 : decode cX1_init 1 = .ok (.invokespecial 3, 3) := by decide +kernel
theorem dX1_init_4 : decode cX1_init 4 = .ok (.aload_n 0, 1) := by decide +kernel
theorem dX1_init_5 : decode cX1_init 5 = .ok (.sipush 341, 3) := by decide +kernel
theorem dX1_init_8 : decode cX1_init 8 = .ok (.newarray .int, 2) := by decide +kernel
theorem dX1_init_10 : decode cX1_init 10 = .ok (.putfield 9, 3) := by decide +kernel
theorem dX1_init_13 : decode cX1_init 13 = .ok (.aload_n 0, 1) := by decide +kernel
theorem dX1_init_14 : decode cX1_init 14 = .ok (.sipush 341, 3) := by decide +kernel
theorem dX1_init_17 : decode cX1_init 17 = .ok (.newarray .int, 2) := by decide +kernel
theorem dX1_init_19 : decode cX1_init 19 = .ok (.putfield 15, 3) := by decide +kernel
theorem dX1_init_22 : decode cX1_init 22 = .ok (.aload_n 0, 1) := by decide +kernel
theorem dX1_init_23 : decode cX1_init 23 = .ok (.sipush 341, 3) := by decide +kernel
theorem dX1_init_26 : decode cX1_init 26 = .ok (.newarray .int, 2) := by decide +kernel
theorem dX1_init_28 : decode cX1_init 28 = .ok (.putfield 18, 3) := by decide +kernel
theorem dX1_init_31 : decode cX1_init 31 = .ok (.aload_n 0, 1) := by decide +kernel
theorem dX1_init_32 : decode cX1_init 32 = .ok (.sipush 341, 3) := by decide +kernel
theorem dX1_init_35 : decode cX1_init 35 = .ok (.newarray .boolean, 2) := by decide +kernel
theorem dX1_init_37 : decode cX1_init 37 = .ok (.putfield 21, 3) := by decide +kernel
theorem dX1_init_40 : decode cX1_init 40 = .ok (.return_, 1) := by decide +kernel
theorem dX1_kindAt_0 : decode cX1_kindAt 0 = .ok (.iload_n 1, 1) := by decide +kernel
theorem dX1_kindAt_1 : decode cX1_kindAt 1 = .ok (.ifCond .lt 21, 3) := by decide +kernel
theorem dX1_kindAt_4 : decode cX1_kindAt 4 = .ok (.iload_n 1, 1) := by decide +kernel
theorem dX1_kindAt_5 : decode cX1_kindAt 5 = .ok (.aload_n 0, 1) := by decide +kernel
theorem dX1_kindAt_6 : decode cX1_kindAt 6 = .ok (.getfield 9, 3) := by decide +kernel
theorem dX1_kindAt_9 : decode cX1_kindAt 9 = .ok (.arraylength, 1) := by decide +kernel
theorem dX1_kindAt_10 : decode cX1_kindAt 10 = .ok (.if_icmp .ge 12, 3) := by decide +kernel
theorem dX1_kindAt_13 : decode cX1_kindAt 13 = .ok (.aload_n 0, 1) := by decide +kernel
theorem dX1_kindAt_14 : decode cX1_kindAt 14 = .ok (.getfield 9, 3) := by decide +kernel
theorem dX1_kindAt_17 : decode cX1_kindAt 17 = .ok (.iload_n 1, 1) := by decide +kernel
theorem dX1_kindAt_18 : decode cX1_kindAt 18 = .ok (.iaload, 1) := by decide +kernel
theorem dX1_kindAt_19 : decode cX1_kindAt 19 = .ok (.goto 4, 3) := by decide +kernel
theorem dX1_kindAt_22 : decode cX1_kindAt 22 = .ok (.iconst 0, 1) := by decide +kernel
theorem dX1_kindAt_23 : decode cX1_kindAt 23 = .ok (.ireturn, 1) := by decide +kernel
theorem dX1_ownerAt_0 : decode cX1_ownerAt 0 = .ok (.iload_n 1, 1) := by decide +kernel
theorem dX1_ownerAt_1 : decode cX1_ownerAt 1 = .ok (.ifCond .lt 21, 3) := by decide +kernel
theorem dX1_ownerAt_4 : decode cX1_ownerAt 4 = .ok (.iload_n 1, 1) := by decide +kernel
theorem dX1_ownerAt_5 : decode cX1_ownerAt 5 = .ok (.aload_n 0, 1) := by decide +kernel
theorem dX1_ownerAt_6 : decode cX1_ownerAt 6 = .ok (.getfield 15, 3) := by decide +kernel
theorem dX1_ownerAt_9 : decode cX1_ownerAt 9 = .ok (.arraylength, 1) := by decide +kernel
theorem dX1_ownerAt_10 : decode cX1_ownerAt 10 = .ok (.if_icmp .ge 12, 3) := by decide +kernel
theorem dX1_ownerAt_13 : decode cX1_ownerAt 13 = .ok (.aload_n 0, 1) := by decide +kernel
theorem dX1_ownerAt_14 : decode cX1_ownerAt 14 = .ok (.getfield 15, 3) := by decide +kernel
theorem dX1_ownerAt_17 : decode cX1_ownerAt 17 = .ok (.iload_n 1, 1) := by decide +kernel
theorem dX1_ownerAt_18 : decode cX1_ownerAt 18 = .ok (.iaload, 1) := by decide +kernel
theorem dX1_ownerAt_19 : decode cX1_ownerAt 19 = .ok (.goto 4, 3) := by decide +kernel
theorem dX1_ownerAt_22 : decode cX1_ownerAt 22 = .ok (.iconst 0, 1) := by decide +kernel
theorem dX1_ownerAt_23 : decode cX1_ownerAt 23 = .ok (.ireturn, 1) := by decide +kernel
theorem dX1_valueAt_0 : decode cX1_valueAt 0 = .ok (.iload_n 1, 1) := by decide +kernel
theorem dX1_valueAt_1 : decode cX1_valueAt 1 = .ok (.ifCond .lt 21, 3) := by decide +kernel
theorem dX1_valueAt_4 : decode cX1_valueAt 4 = .ok (.iload_n 1, 1) := by decide +kernel
theorem dX1_valueAt_5 : decode cX1_valueAt 5 = .ok (.aload_n 0, 1) := by decide +kernel
theorem dX1_valueAt_6 : decode cX1_valueAt 6 = .ok (.getfield 18, 3) := by decide +kernel
theorem dX1_valueAt_9 : decode cX1_valueAt 9 = .ok (.arraylength, 1) := by decide +kernel
theorem dX1_valueAt_10 : decode cX1_valueAt 10 = .ok (.if_icmp .ge 12, 3) := by decide +kernel
theorem dX1_valueAt_13 : decode cX1_valueAt 13 = .ok (.aload_n 0, 1) := by decide +kernel
theorem dX1_valueAt_14 : decode cX1_valueAt 14 = .ok (.getfield 18, 3) := by decide +kernel
theorem dX1_valueAt_17 : decode cX1_valueAt 17 = .ok (.iload_n 1, 1) := by decide +kernel
theorem dX1_valueAt_18 : decode cX1_valueAt 18 = .ok (.iaload, 1) := by decide +kernel
theorem dX1_valueAt_19 : decode cX1_valueAt 19 = .ok (.goto 4, 3) := by decide +kernel
theorem dX1_valueAt_22 : decode cX1_valueAt 22 = .ok (.iconst 0, 1) := by decide +kernel
theorem dX1_valueAt_23 : decode cX1_valueAt 23 = .ok (.ireturn, 1) := by decide +kernel
theorem dX1_fileSizeAt_0 : decode cX1_fileSizeAt 0 = .ok (.aload_n 0, 1) := by decide +kernel
theorem dX1_fileSizeAt_1 : decode cX1_fileSizeAt 1 = .ok (.iload_n 1, 1) := by decide +kernel
theorem dX1_fileSizeAt_2 : decode cX1_fileSizeAt 2 = .ok (.invokevirtual 25, 3) := by decide +kernel
theorem dX1_fileSizeAt_5 : decode cX1_fileSizeAt 5 = .ok (.iconst 1, 1) := by decide +kernel
theorem dX1_fileSizeAt_6 : decode cX1_fileSizeAt 6 = .ok (.if_icmp .ne 11, 3) := by decide +kernel
theorem dX1_fileSizeAt_9 : decode cX1_fileSizeAt 9 = .ok (.aload_n 0, 1) := by decide +kernel
theorem dX1_fileSizeAt_10 : decode cX1_fileSizeAt 10 = .ok (.iload_n 1, 1) := by decide +kernel
theorem dX1_fileSizeAt_11 : decode cX1_fileSizeAt 11 = .ok (.invokevirtual 29, 3) := by decide +kernel
theorem dX1_fileSizeAt_14 : decode cX1_fileSizeAt 14 = .ok (.goto 4, 3) := by decide +kernel
theorem dX1_fileSizeAt_17 : decode cX1_fileSizeAt 17 = .ok (.iconst (-1), 1) := by decide +kernel
theorem dX1_fileSizeAt_18 : decode cX1_fileSizeAt 18 = .ok (.ireturn, 1) := by decide +kernel
theorem dX1_bytesAt_0 : decode cX1_bytesAt 0 = .ok (.aload_n 0, 1) := by decide +kernel
theorem dX1_bytesAt_1 : decode cX1_bytesAt 1 = .ok (.iload_n 1, 1) := by decide +kernel
theorem dX1_bytesAt_2 : decode cX1_bytesAt 2 = .ok (.invokevirtual 25, 3) := by decide +kernel
theorem dX1_bytesAt_5 : decode cX1_bytesAt 5 = .ok (.iconst 1, 1) := by decide +kernel
theorem dX1_bytesAt_6 : decode cX1_bytesAt 6 = .ok (.if_icmp .ne 11, 3) := by decide +kernel
theorem dX1_bytesAt_9 : decode cX1_bytesAt 9 = .ok (.aload_n 0, 1) := by decide +kernel
theorem dX1_bytesAt_10 : decode cX1_bytesAt 10 = .ok (.iload_n 1, 1) := by decide +kernel
theorem dX1_bytesAt_11 : decode cX1_bytesAt 11 = .ok (.invokevirtual 29, 3) := by decide +kernel
theorem dX1_bytesAt_14 : decode cX1_bytesAt 14 = .ok (.goto 4, 3) := by decide +kernel
theorem dX1_bytesAt_17 : decode cX1_bytesAt 17 = .ok (.iconst 0, 1) := by decide +kernel
theorem dX1_bytesAt_18 : decode cX1_bytesAt 18 = .ok (.ireturn, 1) := by decide +kernel
theorem dX1_bytesOfOwnerAt_0 : decode cX1_bytesOfOwnerAt 0 = .ok (.aload_n 0, 1) := by decide +kernel
theorem dX1_bytesOfOwnerAt_1 : decode cX1_bytesOfOwnerAt 1 = .ok (.iload_n 2, 1) := by decide +kernel
theorem dX1_bytesOfOwnerAt_2 : decode cX1_bytesOfOwnerAt 2 = .ok (.invokevirtual 32, 3) := by decide +kernel
theorem dX1_bytesOfOwnerAt_5 : decode cX1_bytesOfOwnerAt 5 = .ok (.iload_n 1, 1) := by decide +kernel
theorem dX1_bytesOfOwnerAt_6 : decode cX1_bytesOfOwnerAt 6 = .ok (.if_icmp .ne 11, 3) := by decide +kernel
theorem dX1_bytesOfOwnerAt_9 : decode cX1_bytesOfOwnerAt 9 = .ok (.aload_n 0, 1) := by decide +kernel
theorem dX1_bytesOfOwnerAt_10 : decode cX1_bytesOfOwnerAt 10 = .ok (.iload_n 2, 1) := by decide +kernel
theorem dX1_bytesOfOwnerAt_11 : decode cX1_bytesOfOwnerAt 11 = .ok (.invokevirtual 35, 3) := by decide +kernel
theorem dX1_bytesOfOwnerAt_14 : decode cX1_bytesOfOwnerAt 14 = .ok (.goto 4, 3) := by decide +kernel
theorem dX1_bytesOfOwnerAt_17 : decode cX1_bytesOfOwnerAt 17 = .ok (.iconst 0, 1) := by decide +kernel
theorem dX1_bytesOfOwnerAt_18 : decode cX1_bytesOfOwnerAt 18 = .ok (.ireturn, 1) := by decide +kernel
theorem dX1_put_0 : decode cX1_put 0 = .ok (.iload_n 1, 1) := by decide +kernel
theorem dX1_put_1 : decode cX1_put 1 = .ok (.invokestatic 38, 3) := by decide +kernel
theorem dX1_put_4 : decode cX1_put 4 = .ok (.ifCond .eq 25, 3) := by decide +kernel
theorem dX1_put_7 : decode cX1_put 7 = .ok (.aload_n 0, 1) := by decide +kernel
theorem dX1_put_8 : decode cX1_put 8 = .ok (.getfield 9, 3) := by decide +kernel
theorem dX1_put_11 : decode cX1_put 11 = .ok (.iload_n 1, 1) := by decide +kernel
theorem dX1_put_12 : decode cX1_put 12 = .ok (.iload_n 2, 1) := by decide +kernel
theorem dX1_put_13 : decode cX1_put 13 = .ok (.iastore, 1) := by decide +kernel
theorem dX1_put_14 : decode cX1_put 14 = .ok (.aload_n 0, 1) := by decide +kernel
theorem dX1_put_15 : decode cX1_put 15 = .ok (.getfield 15, 3) := by decide +kernel
theorem dX1_put_18 : decode cX1_put 18 = .ok (.iload_n 1, 1) := by decide +kernel
theorem dX1_put_19 : decode cX1_put 19 = .ok (.iload_n 3, 1) := by decide +kernel
theorem dX1_put_20 : decode cX1_put 20 = .ok (.iastore, 1) := by decide +kernel
theorem dX1_put_21 : decode cX1_put 21 = .ok (.aload_n 0, 1) := by decide +kernel
theorem dX1_put_22 : decode cX1_put 22 = .ok (.getfield 18, 3) := by decide +kernel
theorem dX1_put_25 : decode cX1_put 25 = .ok (.iload_n 1, 1) := by decide +kernel
theorem dX1_put_26 : decode cX1_put 26 = .ok (.iload 4, 2) := by decide +kernel
theorem dX1_put_28 : decode cX1_put 28 = .ok (.iastore, 1) := by decide +kernel
theorem dX1_put_29 : decode cX1_put 29 = .ok (.return_, 1) := by decide +kernel
theorem dX1_countOf_0 : decode cX1_countOf 0 = .ok (.iconst 0, 1) := by decide +kernel
theorem dX1_countOf_1 : decode cX1_countOf 1 = .ok (.istore_n 2, 1) := by decide +kernel
theorem dX1_countOf_2 : decode cX1_countOf 2 = .ok (.iconst 0, 1) := by decide +kernel
theorem dX1_countOf_3 : decode cX1_countOf 3 = .ok (.istore_n 3, 1) := by decide +kernel
theorem dX1_countOf_4 : decode cX1_countOf 4 = .ok (.iload_n 3, 1) := by decide +kernel
theorem dX1_countOf_5 : decode cX1_countOf 5 = .ok (.sipush 341, 3) := by decide +kernel
theorem dX1_countOf_8 : decode cX1_countOf 8 = .ok (.if_icmp .ge 22, 3) := by decide +kernel
theorem dX1_countOf_11 : decode cX1_countOf 11 = .ok (.aload_n 0, 1) := by decide +kernel
theorem dX1_countOf_12 : decode cX1_countOf 12 = .ok (.getfield 9, 3) := by decide +kernel
theorem dX1_countOf_15 : decode cX1_countOf 15 = .ok (.iload_n 3, 1) := by decide +kernel
theorem dX1_countOf_16 : decode cX1_countOf 16 = .ok (.iaload, 1) := by decide +kernel
theorem dX1_countOf_17 : decode cX1_countOf 17 = .ok (.iload_n 1, 1) := by decide +kernel
theorem dX1_countOf_18 : decode cX1_countOf 18 = .ok (.if_icmp .ne 6, 3) := by decide +kernel
theorem dX1_countOf_21 : decode cX1_countOf 21 = .ok (.iinc 2 1, 3) := by decide +kernel
theorem dX1_countOf_24 : decode cX1_countOf 24 = .ok (.iinc 3 1, 3) := by decide +kernel
theorem dX1_countOf_27 : decode cX1_countOf 27 = .ok (.goto (-23), 3) := by decide +kernel
theorem dX1_countOf_30 : decode cX1_countOf 30 = .ok (.iload_n 2, 1) := by decide +kernel
theorem dX1_countOf_31 : decode cX1_countOf 31 = .ok (.ireturn, 1) := by decide +kernel
theorem dX1_bytesOfOwner_0 : decode cX1_bytesOfOwner 0 = .ok (.iconst 0, 1) := by decide +kernel
theorem dX1_bytesOfOwner_1 : decode cX1_bytesOfOwner 1 = .ok (.istore_n 2, 1) := by decide +kernel
theorem dX1_bytesOfOwner_2 : decode cX1_bytesOfOwner 2 = .ok (.iconst 0, 1) := by decide +kernel
theorem dX1_bytesOfOwner_3 : decode cX1_bytesOfOwner 3 = .ok (.istore_n 3, 1) := by decide +kernel
theorem dX1_bytesOfOwner_4 : decode cX1_bytesOfOwner 4 = .ok (.iload_n 3, 1) := by decide +kernel
theorem dX1_bytesOfOwner_5 : decode cX1_bytesOfOwner 5 = .ok (.sipush 341, 3) := by decide +kernel
theorem dX1_bytesOfOwner_8 : decode cX1_bytesOfOwner 8 = .ok (.if_icmp .ge 18, 3) := by decide +kernel
theorem dX1_bytesOfOwner_11 : decode cX1_bytesOfOwner 11 = .ok (.iload_n 2, 1) := by decide +kernel
theorem dX1_bytesOfOwner_12 : decode cX1_bytesOfOwner 12 = .ok (.aload_n 0, 1) := by decide +kernel
theorem dX1_bytesOfOwner_13 : decode cX1_bytesOfOwner 13 = .ok (.iload_n 1, 1) := by decide +kernel
theorem dX1_bytesOfOwner_14 : decode cX1_bytesOfOwner 14 = .ok (.iload_n 3, 1) := by decide +kernel
theorem dX1_bytesOfOwner_15 : decode cX1_bytesOfOwner 15 = .ok (.invokevirtual 42, 3) := by decide +kernel
theorem dX1_bytesOfOwner_18 : decode cX1_bytesOfOwner 18 = .ok (.iadd, 1) := by decide +kernel
theorem dX1_bytesOfOwner_19 : decode cX1_bytesOfOwner 19 = .ok (.istore_n 2, 1) := by decide +kernel
theorem dX1_bytesOfOwner_20 : decode cX1_bytesOfOwner 20 = .ok (.iinc 3 1, 3) := by decide +kernel
theorem dX1_bytesOfOwner_23 : decode cX1_bytesOfOwner 23 = .ok (.goto (-19), 3) := by decide +kernel
theorem dX1_bytesOfOwner_26 : decode cX1_bytesOfOwner 26 = .ok (.iload_n 2, 1) := by decide +kernel
theorem dX1_bytesOfOwner_27 : decode cX1_bytesOfOwner 27 = .ok (.ireturn, 1) := by decide +kernel
theorem dX1_allBytesOfFiles_0 : decode cX1_allBytesOfFiles 0 = .ok (.iconst 0, 1) := by decide +kernel
theorem dX1_allBytesOfFiles_1 : decode cX1_allBytesOfFiles 1 = .ok (.istore_n 1, 1) := by decide +kernel
theorem dX1_allBytesOfFiles_2 : decode cX1_allBytesOfFiles 2 = .ok (.iconst 0, 1) := by decide +kernel
theorem dX1_allBytesOfFiles_3 : decode cX1_allBytesOfFiles 3 = .ok (.istore_n 2, 1) := by decide +kernel
theorem dX1_allBytesOfFiles_4 : decode cX1_allBytesOfFiles 4 = .ok (.iload_n 2, 1) := by decide +kernel
theorem dX1_allBytesOfFiles_5 : decode cX1_allBytesOfFiles 5 = .ok (.sipush 341, 3) := by decide +kernel
theorem dX1_allBytesOfFiles_8 : decode cX1_allBytesOfFiles 8 = .ok (.if_icmp .ge 17, 3) := by decide +kernel
theorem dX1_allBytesOfFiles_11 : decode cX1_allBytesOfFiles 11 = .ok (.iload_n 1, 1) := by decide +kernel
theorem dX1_allBytesOfFiles_12 : decode cX1_allBytesOfFiles 12 = .ok (.aload_n 0, 1) := by decide +kernel
theorem dX1_allBytesOfFiles_13 : decode cX1_allBytesOfFiles 13 = .ok (.iload_n 2, 1) := by decide +kernel
theorem dX1_allBytesOfFiles_14 : decode cX1_allBytesOfFiles 14 = .ok (.invokevirtual 35, 3) := by decide +kernel
theorem dX1_allBytesOfFiles_17 : decode cX1_allBytesOfFiles 17 = .ok (.iadd, 1) := by decide +kernel
theorem dX1_allBytesOfFiles_18 : decode cX1_allBytesOfFiles 18 = .ok (.istore_n 1, 1) := by decide +kernel
theorem dX1_allBytesOfFiles_19 : decode cX1_allBytesOfFiles 19 = .ok (.iinc 2 1, 3) := by decide +kernel
theorem dX1_allBytesOfFiles_22 : decode cX1_allBytesOfFiles 22 = .ok (.goto (-18), 3) := by decide +kernel
theorem dX1_allBytesOfFiles_25 : decode cX1_allBytesOfFiles 25 = .ok (.iload_n 1, 1) := by decide +kernel
theorem dX1_allBytesOfFiles_26 : decode cX1_allBytesOfFiles 26 = .ok (.ireturn, 1) := by decide +kernel
theorem dX1_forgetCounted_0 : decode cX1_forgetCounted 0 = .ok (.iconst 0, 1) := by decide +kernel
theorem dX1_forgetCounted_1 : decode cX1_forgetCounted 1 = .ok (.istore_n 1, 1) := by decide +kernel
theorem dX1_forgetCounted_2 : decode cX1_forgetCounted 2 = .ok (.iload_n 1, 1) := by decide +kernel
theorem dX1_forgetCounted_3 : decode cX1_forgetCounted 3 = .ok (.sipush 341, 3) := by decide +kernel
theorem dX1_forgetCounted_6 : decode cX1_forgetCounted 6 = .ok (.if_icmp .ge 16, 3) := by decide +kernel
theorem dX1_forgetCounted_9 : decode cX1_forgetCounted 9 = .ok (.aload_n 0, 1) := by decide +kernel
theorem dX1_forgetCounted_10 : decode cX1_forgetCounted 10 = .ok (.getfield 21, 3) := by decide +kernel
theorem dX1_forgetCounted_13 : decode cX1_forgetCounted 13 = .ok (.iload_n 1, 1) := by decide +kernel
theorem dX1_forgetCounted_14 : decode cX1_forgetCounted 14 = .ok (.iconst 0, 1) := by decide +kernel
theorem dX1_forgetCounted_15 : decode cX1_forgetCounted 15 = .ok (.bastore, 1) := by decide +kernel
theorem dX1_forgetCounted_16 : decode cX1_forgetCounted 16 = .ok (.iinc 1 1, 3) := by decide +kernel
theorem dX1_forgetCounted_19 : decode cX1_forgetCounted 19 = .ok (.goto (-17), 3) := by decide +kernel
theorem dX1_forgetCounted_22 : decode cX1_forgetCounted 22 = .ok (.return_, 1) := by decide +kernel
theorem dX1_bytesNotYetCounted_0 : decode cX1_bytesNotYetCounted 0 = .ok (.iload_n 1, 1) := by decide +kernel
theorem dX1_bytesNotYetCounted_1 : decode cX1_bytesNotYetCounted 1 = .ok (.invokestatic 38, 3) := by decide +kernel
theorem dX1_bytesNotYetCounted_4 : decode cX1_bytesNotYetCounted 4 = .ok (.ifCond .eq 12, 3) := by decide +kernel
theorem dX1_bytesNotYetCounted_7 : decode cX1_bytesNotYetCounted 7 = .ok (.aload_n 0, 1) := by decide +kernel
theorem dX1_bytesNotYetCounted_8 : decode cX1_bytesNotYetCounted 8 = .ok (.getfield 21, 3) := by decide +kernel
theorem dX1_bytesNotYetCounted_11 : decode cX1_bytesNotYetCounted 11 = .ok (.iload_n 1, 1) := by decide +kernel
theorem dX1_bytesNotYetCounted_12 : decode cX1_bytesNotYetCounted 12 = .ok (.baload, 1) := by decide +kernel
theorem dX1_bytesNotYetCounted_13 : decode cX1_bytesNotYetCounted 13 = .ok (.ifCond .eq 5, 3) := by decide +kernel
theorem dX1_bytesNotYetCounted_16 : decode cX1_bytesNotYetCounted 16 = .ok (.iconst 0, 1) := by decide +kernel
theorem dX1_bytesNotYetCounted_17 : decode cX1_bytesNotYetCounted 17 = .ok (.ireturn, 1) := by decide +kernel
theorem dX1_bytesNotYetCounted_18 : decode cX1_bytesNotYetCounted 18 = .ok (.aload_n 0, 1) := by decide +kernel
theorem dX1_bytesNotYetCounted_19 : decode cX1_bytesNotYetCounted 19 = .ok (.getfield 21, 3) := by decide +kernel
theorem dX1_bytesNotYetCounted_22 : decode cX1_bytesNotYetCounted 22 = .ok (.iload_n 1, 1) := by decide +kernel
theorem dX1_bytesNotYetCounted_23 : decode cX1_bytesNotYetCounted 23 = .ok (.iconst 1, 1) := by decide +kernel
theorem dX1_bytesNotYetCounted_24 : decode cX1_bytesNotYetCounted 24 = .ok (.bastore, 1) := by decide +kernel
theorem dX1_bytesNotYetCounted_25 : decode cX1_bytesNotYetCounted 25 = .ok (.aload_n 0, 1) := by decide +kernel
theorem dX1_bytesNotYetCounted_26 : decode cX1_bytesNotYetCounted 26 = .ok (.iload_n 1, 1) := by decide +kernel
theorem dX1_bytesNotYetCounted_27 : decode cX1_bytesNotYetCounted 27 = .ok (.invokevirtual 35, 3) := by decide +kernel
theorem dX1_bytesNotYetCounted_30 : decode cX1_bytesNotYetCounted 30 = .ok (.ireturn, 1) := by decide +kernel
theorem dX2_init_0 : decode cX2_init 0 = .ok (.aload_n 0, 1) := by decide +kernel
theorem dX2_init_1 : decode cX2_init 1 = .ok (.invokespecial 3, 3) := by decide +kernel
theorem dX2_init_4 : decode cX2_init 4 = .ok (.aload_n 0, 1) := by decide +kernel
theorem dX2_init_5 : decode cX2_init 5 = .ok (.iload_n 1, 1) := by decide +kernel
theorem dX2_init_6 : decode cX2_init 6 = .ok (.putfield 9, 3) := by decide +kernel
theorem dX2_init_9 : decode cX2_init 9 = .ok (.aload_n 0, 1) := by decide +kernel
theorem dX2_init_10 : decode cX2_init 10 = .ok (.iload_n 2, 1) := by decide +kernel
theorem dX2_init_11 : decode cX2_init 11 = .ok (.putfield 15, 3) := by decide +kernel
theorem dX2_init_14 : decode cX2_init 14 = .ok (.aload_n 0, 1) := by decide +kernel
theorem dX2_init_15 : decode cX2_init 15 = .ok (.iload_n 3, 1) := by decide +kernel
theorem dX2_init_16 : decode cX2_init 16 = .ok (.putfield 18, 3) := by decide +kernel
theorem dX2_init_19 : decode cX2_init 19 = .ok (.aload_n 0, 1) := by decide +kernel
theorem dX2_init_20 : decode cX2_init 20 = .ok (.iconst 1, 1) := by decide +kernel
theorem dX2_init_21 : decode cX2_init 21 = .ok (.putfield 21, 3) := by decide +kernel
theorem dX2_init_24 : decode cX2_init 24 = .ok (.return_, 1) := by decide +kernel
theorem dX2_written_0 : decode cX2_written 0 = .ok (.aload_n 0, 1) := by decide +kernel
theorem dX2_written_1 : decode cX2_written 1 = .ok (.getfield 18, 3) := by decide +kernel
theorem dX2_written_4 : decode cX2_written 4 = .ok (.iconst (-1), 1) := by decide +kernel
theorem dX2_written_5 : decode cX2_written 5 = .ok (.if_icmp .ne 10, 3) := by decide +kernel
theorem dX2_written_8 : decode cX2_written 8 = .ok (.aload_n 0, 1) := by decide +kernel
theorem dX2_written_9 : decode cX2_written 9 = .ok (.getfield 15, 3) := by decide +kernel
theorem dX2_written_12 : decode cX2_written 12 = .ok (.goto 7, 3) := by decide +kernel
theorem dX2_written_15 : decode cX2_written 15 = .ok (.aload_n 0, 1) := by decide +kernel
theorem dX2_written_16 : decode cX2_written 16 = .ok (.getfield 18, 3) := by decide +kernel
theorem dX2_written_19 : decode cX2_written 19 = .ok (.ireturn, 1) := by decide +kernel
theorem dX3_init_0 : decode cX3_init 0 = .ok (.aload_n 0, 1) := by decide +kernel
theorem dX3_init_1 : decode cX3_init 1 = .ok (.invokespecial 1, 3) := by decide +kernel
theorem dX3_init_4 : decode cX3_init 4 = .ok (.aload_n 0, 1) := by decide +kernel
theorem dX3_init_5 : decode cX3_init 5 = .ok (.bipush 6, 2) := by decide +kernel
theorem dX3_init_7 : decode cX3_init 7 = .ok (.anewarray 9, 3) := by decide +kernel
theorem dX3_init_10 : decode cX3_init 10 = .ok (.putfield 11, 3) := by decide +kernel
theorem dX3_init_13 : decode cX3_init 13 = .ok (.aload_n 0, 1) := by decide +kernel
theorem dX3_init_14 : decode cX3_init 14 = .ok (.bipush 8, 2) := by decide +kernel
theorem dX3_init_16 : decode cX3_init 16 = .ok (.anewarray 15, 3) := by decide +kernel
theorem dX3_init_19 : decode cX3_init 19 = .ok (.putfield 17, 3) := by decide +kernel
theorem dX3_init_22 : decode cX3_init 22 = .ok (.aload_n 0, 1) := by decide +kernel
theorem dX3_init_23 : decode cX3_init 23 = .ok (.bipush 6, 2) := by decide +kernel
theorem dX3_init_25 : decode cX3_init 25 = .ok (.anewarray 21, 3) := by decide +kernel
theorem dX3_init_28 : decode cX3_init 28 = .ok (.putfield 23, 3) := by decide +kernel
theorem dX3_init_31 : decode cX3_init 31 = .ok (.aload_n 0, 1) := by decide +kernel
theorem dX3_init_32 : decode cX3_init 32 = .ok (.iconst 4, 1) := by decide +kernel
theorem dX3_init_33 : decode cX3_init 33 = .ok (.newarray .int, 2) := by decide +kernel
theorem dX3_init_35 : decode cX3_init 35 = .ok (.putfield 27, 3) := by decide +kernel
theorem dX3_init_38 : decode cX3_init 38 = .ok (.aload_n 0, 1) := by decide +kernel
theorem dX3_init_39 : decode cX3_init 39 = .ok (.iconst 4, 1) := by decide +kernel
theorem dX3_init_40 : decode cX3_init 40 = .ok (.newarray .int, 2) := by decide +kernel
theorem dX3_init_42 : decode cX3_init 42 = .ok (.putfield 31, 3) := by decide +kernel
theorem dX3_init_45 : decode cX3_init 45 = .ok (.aload_n 0, 1) := by decide +kernel
theorem dX3_init_46 : decode cX3_init 46 = .ok (.sipush 341, 3) := by decide +kernel
theorem dX3_init_49 : decode cX3_init 49 = .ok (.newarray .int, 2) := by decide +kernel
theorem dX3_init_51 : decode cX3_init 51 = .ok (.putfield 34, 3) := by decide +kernel
theorem dX3_init_54 : decode cX3_init 54 = .ok (.aload_n 0, 1) := by decide +kernel
theorem dX3_init_55 : decode cX3_init 55 = .ok (.sipush 341, 3) := by decide +kernel
theorem dX3_init_58 : decode cX3_init 58 = .ok (.newarray .int, 2) := by decide +kernel
theorem dX3_init_60 : decode cX3_init 60 = .ok (.putfield 37, 3) := by decide +kernel
theorem dX3_init_63 : decode cX3_init 63 = .ok (.iconst 0, 1) := by decide +kernel
theorem dX3_init_64 : decode cX3_init 64 = .ok (.istore_n 1, 1) := by decide +kernel
theorem dX3_init_65 : decode cX3_init 65 = .ok (.iload_n 1, 1) := by decide +kernel
theorem dX3_init_66 : decode cX3_init 66 = .ok (.iconst 4, 1) := by decide +kernel
theorem dX3_init_67 : decode cX3_init 67 = .ok (.if_icmp .ge 18, 3) := by decide +kernel
theorem dX3_init_70 : decode cX3_init 70 = .ok (.aload_n 0, 1) := by decide +kernel
theorem dX3_init_71 : decode cX3_init 71 = .ok (.getfield 31, 3) := by decide +kernel
theorem dX3_init_74 : decode cX3_init 74 = .ok (.iload_n 1, 1) := by decide +kernel
theorem dX3_init_75 : decode cX3_init 75 = .ok (.sipush 20000, 3) := by decide +kernel
theorem dX3_init_78 : decode cX3_init 78 = .ok (.iastore, 1) := by decide +kernel
theorem dX3_init_79 : decode cX3_init 79 = .ok (.iinc 1 1, 3) := by decide +kernel
theorem dX3_init_82 : decode cX3_init 82 = .ok (.goto (-17), 3) := by decide +kernel
theorem dX3_init_85 : decode cX3_init 85 = .ok (.iconst 0, 1) := by decide +kernel
theorem dX3_init_86 : decode cX3_init 86 = .ok (.istore_n 1, 1) := by decide +kernel
theorem dX3_init_87 : decode cX3_init 87 = .ok (.iload_n 1, 1) := by decide +kernel
theorem dX3_init_88 : decode cX3_init 88 = .ok (.sipush 341, 3) := by decide +kernel
theorem dX3_init_91 : decode cX3_init 91 = .ok (.if_icmp .ge 16, 3) := by decide +kernel
theorem dX3_init_94 : decode cX3_init 94 = .ok (.aload_n 0, 1) := by decide +kernel
theorem dX3_init_95 : decode cX3_init 95 = .ok (.getfield 34, 3) := by decide +kernel
theorem dX3_init_98 : decode cX3_init 98 = .ok (.iload_n 1, 1) := by decide +kernel
theorem dX3_init_99 : decode cX3_init 99 = .ok (.iconst (-1), 1) := by decide +kernel
theorem dX3_init_100 : decode cX3_init 100 = .ok (.iastore, 1) := by decide +kernel
theorem dX3_init_101 : decode cX3_init 101 = .ok (.iinc 1 1, 3) := by decide +kernel
theorem dX3_init_104 : decode cX3_init 104 = .ok (.goto (-17), 3) := by decide +kernel
theorem dX3_init_107 : decode cX3_init 107 = .ok (.return_, 1) := by decide +kernel
theorem dX3_addLayer_0 : decode cX3_addLayer 0 = .ok (.aload_n 0, 1) := by decide +kernel
theorem dX3_addLayer_1 : decode cX3_addLayer 1 = .ok (.getfield 40, 3) := by decide +kernel
theorem dX3_addLayer_4 : decode cX3_addLayer 4 = .ok (.ifCond .lt 15, 3) := by decide +kernel
theorem dX3_addLayer_7 : decode cX3_addLayer 7 = .ok (.aload_n 0, 1) := by decide +kernel
theorem dX3_addLayer_8 : decode cX3_addLayer 8 = .ok (.getfield 40, 3) := by decide +kernel
theorem dX3_addLayer_11 : decode cX3_addLayer 11 = .ok (.aload_n 0, 1) := by decide +kernel
theorem dX3_addLayer_12 : decode cX3_addLayer 12 = .ok (.getfield 11, 3) := by decide +kernel
theorem dX3_addLayer_15 : decode cX3_addLayer 15 = .ok (.arraylength, 1) := by decide +kernel
theorem dX3_addLayer_16 : decode cX3_addLayer 16 = .ok (.if_icmp .lt 13, 3) := by decide +kernel
theorem dX3_addLayer_19 : decode cX3_addLayer 19 = .ok (.new 44, 3) := by decide +kernel
theorem dX3_addLayer_22 : decode cX3_addLayer 22 = .ok (.dup, 1) := by decide +kernel
theorem dX3_addLayer_23 : decode cX3_addLayer 23 = .ok (.ldc 46, 2) := by decide +kernel
theorem dX3_addLayer_25 : decode cX3_addLayer 25 = .ok (.invokespecial 48, 3) := by decide +kernel
theorem dX3_addLayer_28 : decode cX3_addLayer 28 = .ok (.athrow, 1) := by decide +kernel
theorem dX3_addLayer_29 : decode cX3_addLayer 29 = .ok (.aload_n 0, 1) := by decide +kernel
theorem dX3_addLayer_30 : decode cX3_addLayer 30 = .ok (.getfield 40, 3) := by decide +kernel
theorem dX3_addLayer_33 : decode cX3_addLayer 33 = .ok (.istore_n 1, 1) := by decide +kernel
theorem dX3_addLayer_34 : decode cX3_addLayer 34 = .ok (.aload_n 0, 1) := by decide +kernel
theorem dX3_addLayer_35 : decode cX3_addLayer 35 = .ok (.getfield 11, 3) := by decide +kernel
theorem dX3_addLayer_38 : decode cX3_addLayer 38 = .ok (.iload_n 1, 1) := by decide +kernel
theorem dX3_addLayer_39 : decode cX3_addLayer 39 = .ok (.new 9, 3) := by decide +kernel
theorem dX3_addLayer_42 : decode cX3_addLayer 42 = .ok (.dup, 1) := by decide +kernel
theorem dX3_addLayer_43 : decode cX3_addLayer 43 = .ok (.invokespecial 51, 3) := by decide +kernel
theorem dX3_addLayer_46 : decode cX3_addLayer 46 = .ok (.aastore, 1) := by decide +kernel
theorem dX3_addLayer_47 : decode cX3_addLayer 47 = .ok (.aload_n 0, 1) := by decide +kernel
theorem dX3_addLayer_48 : decode cX3_addLayer 48 = .ok (.dup, 1) := by decide +kernel
theorem dX3_addLayer_49 : decode cX3_addLayer 49 = .ok (.getfield 40, 3) := by decide +kernel
theorem dX3_addLayer_52 : decode cX3_addLayer 52 = .ok (.iconst 1, 1) := by decide +kernel
theorem dX3_addLayer_53 : decode cX3_addLayer 53 = .ok (.iadd, 1) := by decide +kernel
theorem dX3_addLayer_54 : decode cX3_addLayer 54 = .ok (.putfield 40, 3) := by decide +kernel
theorem dX3_addLayer_57 : decode cX3_addLayer 57 = .ok (.iload_n 1, 1) := by decide +kernel
theorem dX3_addLayer_58 : decode cX3_addLayer 58 = .ok (.ireturn, 1) := by decide +kernel
theorem dX3_mount_0 : decode cX3_mount 0 = .ok (.iload_n 3, 1) := by decide +kernel
theorem dX3_mount_1 : decode cX3_mount 1 = .ok (.iconst (-1), 1) := by decide +kernel
theorem dX3_mount_2 : decode cX3_mount 2 = .ok (.if_icmp .eq 7, 3) := by decide +kernel
theorem dX3_mount_5 : decode cX3_mount 5 = .ok (.iconst 1, 1) := by decide +kernel
theorem dX3_mount_6 : decode cX3_mount 6 = .ok (.goto 4, 3) := by decide +kernel
theorem dX3_mount_9 : decode cX3_mount 9 = .ok (.iconst 0, 1) := by decide +kernel
theorem dX3_mount_10 : decode cX3_mount 10 = .ok (.istore 4, 2) := by decide +kernel
theorem dX3_mount_12 : decode cX3_mount 12 = .ok (.iload_n 1, 1) := by decide +kernel
theorem dX3_mount_13 : decode cX3_mount 13 = .ok (.invokestatic 52, 3) := by decide +kernel
theorem dX3_mount_16 : decode cX3_mount 16 = .ok (.iconst (-1), 1) := by decide +kernel
theorem dX3_mount_17 : decode cX3_mount 17 = .ok (.if_icmp .eq 13, 3) := by decide +kernel
theorem dX3_mount_20 : decode cX3_mount 20 = .ok (.iload 4, 2) := by decide +kernel
theorem dX3_mount_22 : decode cX3_mount 22 = .ok (.ifCond .eq 18, 3) := by decide +kernel
theorem dX3_mount_25 : decode cX3_mount 25 = .ok (.iload_n 2, 1) := by decide +kernel
theorem dX3_mount_26 : decode cX3_mount 26 = .ok (.iload_n 3, 1) := by decide +kernel
theorem dX3_mount_27 : decode cX3_mount 27 = .ok (.if_icmp .ne 13, 3) := by decide +kernel
theorem dX3_mount_30 : decode cX3_mount 30 = .ok (.new 56, 3) := by decide +kernel
theorem dX3_mount_33 : decode cX3_mount 33 = .ok (.dup, 1) := by decide +kernel
theorem dX3_mount_34 : decode cX3_mount 34 = .ok (.ldc 58, 2) := by decide +kernel
theorem dX3_mount_36 : decode cX3_mount 36 = .ok (.invokespecial 60, 3) := by decide +kernel
theorem dX3_mount_39 : decode cX3_mount 39 = .ok (.athrow, 1) := by decide +kernel
theorem dX3_mount_40 : decode cX3_mount 40 = .ok (.aload_n 0, 1) := by decide +kernel
theorem dX3_mount_41 : decode cX3_mount 41 = .ok (.iload_n 2, 1) := by decide +kernel
theorem dX3_mount_42 : decode cX3_mount 42 = .ok (.invokevirtual 61, 3) := by decide +kernel
theorem dX3_mount_45 : decode cX3_mount 45 = .ok (.ifnull 16, 3) := by decide +kernel
theorem dX3_mount_48 : decode cX3_mount 48 = .ok (.iload 4, 2) := by decide +kernel
theorem dX3_mount_50 : decode cX3_mount 50 = .ok (.ifCond .eq 21, 3) := by decide +kernel
theorem dX3_mount_53 : decode cX3_mount 53 = .ok (.aload_n 0, 1) := by decide +kernel
theorem dX3_mount_54 : decode cX3_mount 54 = .ok (.iload_n 3, 1) := by decide +kernel
theorem dX3_mount_55 : decode cX3_mount 55 = .ok (.invokevirtual 61, 3) := by decide +kernel
theorem dX3_mount_58 : decode cX3_mount 58 = .ok (.ifnonnull 13, 3) := by decide +kernel
theorem dX3_mount_61 : decode cX3_mount 61 = .ok (.new 65, 3) := by decide +kernel
theorem dX3_mount_64 : decode cX3_mount 64 = .ok (.dup, 1) := by decide +kernel
theorem dX3_mount_65 : decode cX3_mount 65 = .ok (.ldc 67, 2) := by decide +kernel
theorem dX3_mount_67 : decode cX3_mount 67 = .ok (.invokespecial 69, 3) := by decide +kernel
theorem dX3_mount_70 : decode cX3_mount 70 = .ok (.athrow, 1) := by decide +kernel
theorem dX3_mount_71 : decode cX3_mount 71 = .ok (.aload_n 0, 1) := by decide +kernel
theorem dX3_mount_72 : decode cX3_mount 72 = .ok (.iload_n 2, 1) := by decide +kernel
theorem dX3_mount_73 : decode cX3_mount 73 = .ok (.invokevirtual 70, 3) := by decide +kernel
theorem dX3_mount_76 : decode cX3_mount 76 = .ok (.ifCond .ne 16, 3) := by decide +kernel
theorem dX3_mount_79 : decode cX3_mount 79 = .ok (.iload 4, 2) := by decide +kernel
theorem dX3_mount_81 : decode cX3_mount 81 = .ok (.ifCond .eq 21, 3) := by decide +kernel
theorem dX3_mount_84 : decode cX3_mount 84 = .ok (.aload_n 0, 1) := by decide +kernel
theorem dX3_mount_85 : decode cX3_mount 85 = .ok (.iload_n 3, 1) := by decide +kernel
theorem dX3_mount_86 : decode cX3_mount 86 = .ok (.invokevirtual 74, 3) := by decide +kernel
theorem dX3_mount_89 : decode cX3_mount 89 = .ok (.ifCond .eq 13, 3) := by decide +kernel
theorem dX3_mount_92 : decode cX3_mount 92 = .ok (.new 77, 3) := by decide +kernel
theorem dX3_mount_95 : decode cX3_mount 95 = .ok (.dup, 1) := by decide +kernel
theorem dX3_mount_96 : decode cX3_mount 96 = .ok (.ldc 79, 2) := by decide +kernel
theorem dX3_mount_98 : decode cX3_mount 98 = .ok (.invokespecial 81, 3) := by decide +kernel
theorem dX3_mount_101 : decode cX3_mount 101 = .ok (.athrow, 1) := by decide +kernel
theorem dX3_mount_102 : decode cX3_mount 102 = .ok (.aload_n 0, 1) := by decide +kernel
theorem dX3_mount_103 : decode cX3_mount 103 = .ok (.getfield 82, 3) := by decide +kernel
theorem dX3_mount_106 : decode cX3_mount 106 = .ok (.ifCond .lt 15, 3) := by decide +kernel
theorem dX3_mount_109 : decode cX3_mount 109 = .ok (.aload_n 0, 1) := by decide +kernel
theorem dX3_mount_110 : decode cX3_mount 110 = .ok (.getfield 82, 3) := by decide +kernel
theorem dX3_mount_113 : decode cX3_mount 113 = .ok (.aload_n 0, 1) := by decide +kernel
theorem dX3_mount_114 : decode cX3_mount 114 = .ok (.getfield 17, 3) := by decide +kernel
theorem dX3_mount_117 : decode cX3_mount 117 = .ok (.arraylength, 1) := by decide +kernel
theorem dX3_mount_118 : decode cX3_mount 118 = .ok (.if_icmp .lt 13, 3) := by decide +kernel
theorem dX3_mount_121 : decode cX3_mount 121 = .ok (.new 44, 3) := by decide +kernel
theorem dX3_mount_124 : decode cX3_mount 124 = .ok (.dup, 1) := by decide +kernel
theorem dX3_mount_125 : decode cX3_mount 125 = .ok (.ldc 85, 2) := by decide +kernel
theorem dX3_mount_127 : decode cX3_mount 127 = .ok (.invokespecial 48, 3) := by decide +kernel
theorem dX3_mount_130 : decode cX3_mount 130 = .ok (.athrow, 1) := by decide +kernel
theorem dX3_mount_131 : decode cX3_mount 131 = .ok (.aload_n 0, 1) := by decide +kernel
theorem dX3_mount_132 : decode cX3_mount 132 = .ok (.getfield 82, 3) := by decide +kernel
theorem dX3_mount_135 : decode cX3_mount 135 = .ok (.istore 5, 2) := by decide +kernel
theorem dX3_mount_137 : decode cX3_mount 137 = .ok (.aload_n 0, 1) := by decide +kernel
theorem dX3_mount_138 : decode cX3_mount 138 = .ok (.getfield 17, 3) := by decide +kernel
theorem dX3_mount_141 : decode cX3_mount 141 = .ok (.iload 5, 2) := by decide +kernel
theorem dX3_mount_143 : decode cX3_mount 143 = .ok (.new 15, 3) := by decide +kernel
theorem dX3_mount_146 : decode cX3_mount 146 = .ok (.dup, 1) := by decide +kernel
theorem dX3_mount_147 : decode cX3_mount 147 = .ok (.iload_n 1, 1) := by decide +kernel
theorem dX3_mount_148 : decode cX3_mount 148 = .ok (.iload_n 2, 1) := by decide +kernel
theorem dX3_mount_149 : decode cX3_mount 149 = .ok (.iload_n 3, 1) := by decide +kernel
theorem dX3_mount_150 : decode cX3_mount 150 = .ok (.invokespecial 87, 3) := by decide +kernel
theorem dX3_mount_153 : decode cX3_mount 153 = .ok (.aastore, 1) := by decide +kernel
theorem dX3_mount_154 : decode cX3_mount 154 = .ok (.aload_n 0, 1) := by decide +kernel
theorem dX3_mount_155 : decode cX3_mount 155 = .ok (.dup, 1) := by decide +kernel
theorem dX3_mount_156 : decode cX3_mount 156 = .ok (.getfield 82, 3) := by decide +kernel
theorem dX3_mount_159 : decode cX3_mount 159 = .ok (.iconst 1, 1) := by decide +kernel
theorem dX3_mount_160 : decode cX3_mount 160 = .ok (.iadd, 1) := by decide +kernel
theorem dX3_mount_161 : decode cX3_mount 161 = .ok (.putfield 82, 3) := by decide +kernel
theorem dX3_mount_164 : decode cX3_mount 164 = .ok (.aload_n 0, 1) := by decide +kernel
theorem dX3_mount_165 : decode cX3_mount 165 = .ok (.invokevirtual 90, 3) := by decide +kernel
theorem dX3_mount_168 : decode cX3_mount 168 = .ok (.iload 5, 2) := by decide +kernel
theorem dX3_mount_170 : decode cX3_mount 170 = .ok (.ireturn, 1) := by decide +kernel
theorem dX3_unmount_0 : decode cX3_unmount 0 = .ok (.aload_n 0, 1) := by decide +kernel
theorem dX3_unmount_1 : decode cX3_unmount 1 = .ok (.iload_n 1, 1) := by decide +kernel
theorem dX3_unmount_2 : decode cX3_unmount 2 = .ok (.invokevirtual 93, 3) := by decide +kernel
theorem dX3_unmount_5 : decode cX3_unmount 5 = .ok (.iconst 0, 1) := by decide +kernel
theorem dX3_unmount_6 : decode cX3_unmount 6 = .ok (.putfield 97, 3) := by decide +kernel
theorem dX3_unmount_9 : decode cX3_unmount 9 = .ok (.aload_n 0, 1) := by decide +kernel
theorem dX3_unmount_10 : decode cX3_unmount 10 = .ok (.invokevirtual 90, 3) := by decide +kernel
theorem dX3_unmount_13 : decode cX3_unmount 13 = .ok (.iconst 0, 1) := by decide +kernel
theorem dX3_unmount_14 : decode cX3_unmount 14 = .ok (.istore_n 2, 1) := by decide +kernel
theorem dX3_unmount_15 : decode cX3_unmount 15 = .ok (.iconst 0, 1) := by decide +kernel
theorem dX3_unmount_16 : decode cX3_unmount 16 = .ok (.istore_n 3, 1) := by decide +kernel
theorem dX3_unmount_17 : decode cX3_unmount 17 = .ok (.iload_n 3, 1) := by decide +kernel
theorem dX3_unmount_18 : decode cX3_unmount 18 = .ok (.aload_n 0, 1) := by decide +kernel
theorem dX3_unmount_19 : decode cX3_unmount 19 = .ok (.getfield 82, 3) := by decide +kernel
theorem dX3_unmount_22 : decode cX3_unmount 22 = .ok (.if_icmp .ge 20, 3) := by decide +kernel
theorem dX3_unmount_25 : decode cX3_unmount 25 = .ok (.aload_n 0, 1) := by decide +kernel
theorem dX3_unmount_26 : decode cX3_unmount 26 = .ok (.iload_n 3, 1) := by decide +kernel
theorem dX3_unmount_27 : decode cX3_unmount 27 = .ok (.invokevirtual 101, 3) := by decide +kernel
theorem dX3_unmount_30 : decode cX3_unmount 30 = .ok (.ifnull 6, 3) := by decide +kernel
theorem dX3_unmount_33 : decode cX3_unmount 33 = .ok (.iinc 2 1, 3) := by decide +kernel
theorem dX3_unmount_36 : decode cX3_unmount 36 = .ok (.iinc 3 1, 3) := by decide +kernel
theorem dX3_unmount_39 : decode cX3_unmount 39 = .ok (.goto (-22), 3) := by decide +kernel
theorem dX3_unmount_42 : decode cX3_unmount 42 = .ok (.iload_n 2, 1) := by decide +kernel
theorem dX3_unmount_43 : decode cX3_unmount 43 = .ok (.ireturn, 1) := by decide +kernel
theorem dX3_move_0 : decode cX3_move 0 = .ok (.aload_n 0, 1) := by decide +kernel
theorem dX3_move_1 : decode cX3_move 1 = .ok (.iload_n 1, 1) := by decide +kernel
theorem dX3_move_2 : decode cX3_move 2 = .ok (.invokevirtual 93, 3) := by decide +kernel
theorem dX3_move_5 : decode cX3_move 5 = .ok (.astore_n 3, 1) := by decide +kernel
theorem dX3_move_6 : decode cX3_move 6 = .ok (.iload_n 2, 1) := by decide +kernel
theorem dX3_move_7 : decode cX3_move 7 = .ok (.invokestatic 104, 3) := by decide +kernel
theorem dX3_move_10 : decode cX3_move 10 = .ok (.pop, 1) := by decide +kernel
theorem dX3_move_11 : decode cX3_move 11 = .ok (.aload_n 3, 1) := by decide +kernel
theorem dX3_move_12 : decode cX3_move 12 = .ok (.getfield 107, 3) := by decide +kernel
theorem dX3_move_15 : decode cX3_move 15 = .ok (.istore 4, 2) := by decide +kernel
theorem dX3_move_17 : decode cX3_move 17 = .ok (.aload_n 3, 1) := by decide +kernel
theorem dX3_move_18 : decode cX3_move 18 = .ok (.iload_n 2, 1) := by decide +kernel
theorem dX3_move_19 : decode cX3_move 19 = .ok (.putfield 107, 3) := by decide +kernel
theorem dX3_move_22 : decode cX3_move 22 = .ok (.aload_n 0, 1) := by decide +kernel
theorem dX3_move_23 : decode cX3_move 23 = .ok (.invokevirtual 90, 3) := by decide +kernel
theorem dX3_move_26 : decode cX3_move 26 = .ok (.iload 4, 2) := by decide +kernel
theorem dX3_move_28 : decode cX3_move 28 = .ok (.ireturn, 1) := by decide +kernel
theorem dX3_setCrossing_0 : decode cX3_setCrossing 0 = .ok (.aload_n 0, 1) := by decide +kernel
theorem dX3_setCrossing_1 : decode cX3_setCrossing 1 = .ok (.iload_n 1, 1) := by decide +kernel
theorem dX3_setCrossing_2 : decode cX3_setCrossing 2 = .ok (.invokevirtual 93, 3) := by decide +kernel
theorem dX3_setCrossing_5 : decode cX3_setCrossing 5 = .ok (.astore_n 3, 1) := by decide +kernel
theorem dX3_setCrossing_6 : decode cX3_setCrossing 6 = .ok (.aload_n 3, 1) := by decide +kernel
theorem dX3_setCrossing_7 : decode cX3_setCrossing 7 = .ok (.getfield 110, 3) := by decide +kernel
theorem dX3_setCrossing_10 : decode cX3_setCrossing 10 = .ok (.istore 4, 2) := by decide +kernel
theorem dX3_setCrossing_12 : decode cX3_setCrossing 12 = .ok (.aload_n 3, 1) := by decide +kernel
theorem dX3_setCrossing_13 : decode cX3_setCrossing 13 = .ok (.iload_n 2, 1) := by decide +kernel
theorem dX3_setCrossing_14 : decode cX3_setCrossing 14 = .ok (.putfield 110, 3) := by decide +kernel
theorem dX3_setCrossing_17 : decode cX3_setCrossing 17 = .ok (.iload 4, 2) := by decide +kernel
theorem dX3_setCrossing_19 : decode cX3_setCrossing 19 = .ok (.ireturn, 1) := by decide +kernel
theorem dX3_served_0 : decode cX3_served 0 = .ok (.aload_n 0, 1) := by decide +kernel
theorem dX3_served_1 : decode cX3_served 1 = .ok (.iload_n 1, 1) := by decide +kernel
theorem dX3_served_2 : decode cX3_served 2 = .ok (.invokestatic 104, 3) := by decide +kernel
theorem dX3_served_5 : decode cX3_served 5 = .ok (.invokevirtual 113, 3) := by decide +kernel
theorem dX3_served_8 : decode cX3_served 8 = .ok (.istore_n 2, 1) := by decide +kernel
theorem dX3_served_9 : decode cX3_served 9 = .ok (.iload_n 2, 1) := by decide +kernel
theorem dX3_served_10 : decode cX3_served 10 = .ok (.iconst (-1), 1) := by decide +kernel
theorem dX3_served_11 : decode cX3_served 11 = .ok (.if_icmp .ne 13, 3) := by decide +kernel
theorem dX3_served_14 : decode cX3_served 14 = .ok (.new 116, 3) := by decide +kernel
theorem dX3_served_17 : decode cX3_served 17 = .ok (.dup, 1) := by decide +kernel
theorem dX3_served_18 : decode cX3_served 18 = .ok (.ldc 118, 2) := by decide +kernel
theorem dX3_served_20 : decode cX3_served 20 = .ok (.invokespecial 120, 3) := by decide +kernel
theorem dX3_served_23 : decode cX3_served 23 = .ok (.athrow, 1) := by decide +kernel
theorem dX3_served_24 : decode cX3_served 24 = .ok (.iload_n 2, 1) := by decide +kernel
theorem dX3_served_25 : decode cX3_served 25 = .ok (.ireturn, 1) := by decide +kernel
theorem dX3_covered_0 : decode cX3_covered 0 = .ok (.iconst 0, 1) := by decide +kernel
theorem dX3_covered_1 : decode cX3_covered 1 = .ok (.istore_n 1, 1) := by decide +kernel
theorem dX3_covered_2 : decode cX3_covered 2 = .ok (.iconst 0, 1) := by decide +kernel
theorem dX3_covered_3 : decode cX3_covered 3 = .ok (.istore_n 2, 1) := by decide +kernel
theorem dX3_covered_4 : decode cX3_covered 4 = .ok (.iload_n 2, 1) := by decide +kernel
theorem dX3_covered_5 : decode cX3_covered 5 = .ok (.aload_n 0, 1) := by decide +kernel
theorem dX3_covered_6 : decode cX3_covered 6 = .ok (.getfield 82, 3) := by decide +kernel
theorem dX3_covered_9 : decode cX3_covered 9 = .ok (.if_icmp .ge 37, 3) := by decide +kernel
theorem dX3_covered_12 : decode cX3_covered 12 = .ok (.aload_n 0, 1) := by decide +kernel
theorem dX3_covered_13 : decode cX3_covered 13 = .ok (.iload_n 2, 1) := by decide +kernel
theorem dX3_covered_14 : decode cX3_covered 14 = .ok (.invokevirtual 101, 3) := by decide +kernel
theorem dX3_covered_17 : decode cX3_covered 17 = .ok (.astore_n 3, 1) := by decide +kernel
theorem dX3_covered_18 : decode cX3_covered 18 = .ok (.aload_n 3, 1) := by decide +kernel
theorem dX3_covered_19 : decode cX3_covered 19 = .ok (.ifnull 21, 3) := by decide +kernel
theorem dX3_covered_22 : decode cX3_covered 22 = .ok (.aload_n 0, 1) := by decide +kernel
theorem dX3_covered_23 : decode cX3_covered 23 = .ok (.aload_n 3, 1) := by decide +kernel
theorem dX3_covered_24 : decode cX3_covered 24 = .ok (.getfield 107, 3) := by decide +kernel
theorem dX3_covered_27 : decode cX3_covered 27 = .ok (.invokestatic 52, 3) := by decide +kernel
theorem dX3_covered_30 : decode cX3_covered 30 = .ok (.invokevirtual 113, 3) := by decide +kernel
theorem dX3_covered_33 : decode cX3_covered 33 = .ok (.iload_n 2, 1) := by decide +kernel
theorem dX3_covered_34 : decode cX3_covered 34 = .ok (.if_icmp .eq 6, 3) := by decide +kernel
theorem dX3_covered_37 : decode cX3_covered 37 = .ok (.iinc 1 1, 3) := by decide +kernel
theorem dX3_covered_40 : decode cX3_covered 40 = .ok (.iinc 2 1, 3) := by decide +kernel
theorem dX3_covered_43 : decode cX3_covered 43 = .ok (.goto (-39), 3) := by decide +kernel
theorem dX3_covered_46 : decode cX3_covered 46 = .ok (.iload_n 1, 1) := by decide +kernel
theorem dX3_covered_47 : decode cX3_covered 47 = .ok (.ireturn, 1) := by decide +kernel
theorem dX3_write_0 : decode cX3_write 0 = .ok (.iload_n 1, 1) := by decide +kernel
theorem dX3_write_1 : decode cX3_write 1 = .ok (.invokestatic 121, 3) := by decide +kernel
theorem dX3_write_4 : decode cX3_write 4 = .ok (.iload_n 3, 1) := by decide +kernel
theorem dX3_write_5 : decode cX3_write 5 = .ok (.ifCond .lt 10, 3) := by decide +kernel
theorem dX3_write_8 : decode cX3_write 8 = .ok (.iload_n 3, 1) := by decide +kernel
theorem dX3_write_9 : decode cX3_write 9 = .ok (.sipush 9999, 3) := by decide +kernel
theorem dX3_write_12 : decode cX3_write 12 = .ok (.if_icmp .le 13, 3) := by decide +kernel
theorem dX3_write_15 : decode cX3_write 15 = .ok (.new 56, 3) := by decide +kernel
theorem dX3_write_18 : decode cX3_write 18 = .ok (.dup, 1) := by decide +kernel
theorem dX3_write_19 : decode cX3_write 19 = .ok (.ldc 125, 2) := by decide +kernel
theorem dX3_write_21 : decode cX3_write 21 = .ok (.invokespecial 60, 3) := by decide +kernel
theorem dX3_write_24 : decode cX3_write 24 = .ok (.athrow, 1) := by decide +kernel
theorem dX3_write_25 : decode cX3_write 25 = .ok (.iload_n 2, 1) := by decide +kernel
theorem dX3_write_26 : decode cX3_write 26 = .ok (.invokestatic 104, 3) := by decide +kernel
theorem dX3_write_29 : decode cX3_write 29 = .ok (.istore 4, 2) := by decide +kernel
theorem dX3_write_31 : decode cX3_write 31 = .ok (.aload_n 0, 1) := by decide +kernel
theorem dX3_write_32 : decode cX3_write 32 = .ok (.iload 4, 2) := by decide +kernel
theorem dX3_write_34 : decode cX3_write 34 = .ok (.invokevirtual 127, 3) := by decide +kernel
theorem dX3_write_37 : decode cX3_write 37 = .ok (.astore 5, 2) := by decide +kernel
theorem dX3_write_39 : decode cX3_write 39 = .ok (.aload_n 0, 1) := by decide +kernel
theorem dX3_write_40 : decode cX3_write 40 = .ok (.iload_n 1, 1) := by decide +kernel
theorem dX3_write_41 : decode cX3_write 41 = .ok (.invokevirtual 130, 3) := by decide +kernel
theorem dX3_write_44 : decode cX3_write 44 = .ok (.aload 5, 2) := by decide +kernel
theorem dX3_write_46 : decode cX3_write 46 = .ok (.iload_n 1, 1) := by decide +kernel
theorem dX3_write_47 : decode cX3_write 47 = .ok (.aload_n 0, 1) := by decide +kernel
theorem dX3_write_48 : decode cX3_write 48 = .ok (.iload 4, 2) := by decide +kernel
theorem dX3_write_50 : decode cX3_write 50 = .ok (.invokevirtual 133, 3) := by decide +kernel
theorem dX3_write_53 : decode cX3_write 53 = .ok (.invokevirtual 136, 3) := by decide +kernel
theorem dX3_write_56 : decode cX3_write 56 = .ok (.isub, 1) := by decide +kernel
theorem dX3_write_57 : decode cX3_write 57 = .ok (.iload_n 3, 1) := by decide +kernel
theorem dX3_write_58 : decode cX3_write 58 = .ok (.iadd, 1) := by decide +kernel
theorem dX3_write_59 : decode cX3_write 59 = .ok (.istore 6, 2) := by decide +kernel
theorem dX3_write_61 : decode cX3_write 61 = .ok (.iload 6, 2) := by decide +kernel
theorem dX3_write_63 : decode cX3_write 63 = .ok (.aload_n 0, 1) := by decide +kernel
theorem dX3_write_64 : decode cX3_write 64 = .ok (.iload_n 1, 1) := by decide +kernel
theorem dX3_write_65 : decode cX3_write 65 = .ok (.invokevirtual 140, 3) := by decide +kernel
theorem dX3_write_68 : decode cX3_write 68 = .ok (.if_icmp .le 13, 3) := by decide +kernel
theorem dX3_write_71 : decode cX3_write 71 = .ok (.new 77, 3) := by decide +kernel
theorem dX3_write_74 : decode cX3_write 74 = .ok (.dup, 1) := by decide +kernel
theorem dX3_write_75 : decode cX3_write 75 = .ok (.ldc 143, 2) := by decide +kernel
theorem dX3_write_77 : decode cX3_write 77 = .ok (.invokespecial 81, 3) := by decide +kernel
theorem dX3_write_80 : decode cX3_write 80 = .ok (.athrow, 1) := by decide +kernel
theorem dX3_write_81 : decode cX3_write 81 = .ok (.aload_n 0, 1) := by decide +kernel
theorem dX3_write_82 : decode cX3_write 82 = .ok (.iload 4, 2) := by decide +kernel
theorem dX3_write_84 : decode cX3_write 84 = .ok (.aload 5, 2) := by decide +kernel
theorem dX3_write_86 : decode cX3_write 86 = .ok (.iconst 1, 1) := by decide +kernel
theorem dX3_write_87 : decode cX3_write 87 = .ok (.iload_n 1, 1) := by decide +kernel
theorem dX3_write_88 : decode cX3_write 88 = .ok (.iload_n 3, 1) := by decide +kernel
theorem dX3_write_89 : decode cX3_write 89 = .ok (.invokevirtual 145, 3) := by decide +kernel
theorem dX3_write_92 : decode cX3_write 92 = .ok (.aload_n 0, 1) := by decide +kernel
theorem dX3_write_93 : decode cX3_write 93 = .ok (.iload_n 1, 1) := by decide +kernel
theorem dX3_write_94 : decode cX3_write 94 = .ok (.invokevirtual 130, 3) := by decide +kernel
theorem dX3_write_97 : decode cX3_write 97 = .ok (.ireturn, 1) := by decide +kernel
theorem dX3_link_0 : decode cX3_link 0 = .ok (.iload_n 1, 1) := by decide +kernel
theorem dX3_link_1 : decode cX3_link 1 = .ok (.invokestatic 121, 3) := by decide +kernel
theorem dX3_link_4 : decode cX3_link 4 = .ok (.iload_n 2, 1) := by decide +kernel
theorem dX3_link_5 : decode cX3_link 5 = .ok (.invokestatic 104, 3) := by decide +kernel
theorem dX3_link_8 : decode cX3_link 8 = .ok (.istore 4, 2) := by decide +kernel
theorem dX3_link_10 : decode cX3_link 10 = .ok (.iload_n 3, 1) := by decide +kernel
theorem dX3_link_11 : decode cX3_link 11 = .ok (.invokestatic 104, 3) := by decide +kernel
theorem dX3_link_14 : decode cX3_link 14 = .ok (.pop, 1) := by decide +kernel
theorem dX3_link_15 : decode cX3_link 15 = .ok (.aload_n 0, 1) := by decide +kernel
theorem dX3_link_16 : decode cX3_link 16 = .ok (.iload 4, 2) := by decide +kernel
theorem dX3_link_18 : decode cX3_link 18 = .ok (.aload_n 0, 1) := by decide +kernel
theorem dX3_link_19 : decode cX3_link 19 = .ok (.iload 4, 2) := by decide +kernel
theorem dX3_link_21 : decode cX3_link 21 = .ok (.invokevirtual 127, 3) := by decide +kernel
theorem dX3_link_24 : decode cX3_link 24 = .ok (.iconst 2, 1) := by decide +kernel
theorem dX3_link_25 : decode cX3_link 25 = .ok (.iload_n 1, 1) := by decide +kernel
theorem dX3_link_26 : decode cX3_link 26 = .ok (.iload_n 3, 1) := by decide +kernel
theorem dX3_link_27 : decode cX3_link 27 = .ok (.invokevirtual 145, 3) := by decide +kernel
theorem dX3_link_30 : decode cX3_link 30 = .ok (.iconst 0, 1) := by decide +kernel
theorem dX3_link_31 : decode cX3_link 31 = .ok (.istore 5, 2) := by decide +kernel
theorem dX3_link_33 : decode cX3_link 33 = .ok (.iconst 0, 1) := by decide +kernel
theorem dX3_link_34 : decode cX3_link 34 = .ok (.istore 6, 2) := by decide +kernel
theorem dX3_link_36 : decode cX3_link 36 = .ok (.iload 6, 2) := by decide +kernel
theorem dX3_link_38 : decode cX3_link 38 = .ok (.aload_n 0, 1) := by decide +kernel
theorem dX3_link_39 : decode cX3_link 39 = .ok (.getfield 40, 3) := by decide +kernel
theorem dX3_link_42 : decode cX3_link 42 = .ok (.if_icmp .ge 33, 3) := by decide +kernel
theorem dX3_link_45 : decode cX3_link 45 = .ok (.aload_n 0, 1) := by decide +kernel
theorem dX3_link_46 : decode cX3_link 46 = .ok (.iload 6, 2) := by decide +kernel
theorem dX3_link_48 : decode cX3_link 48 = .ok (.invokevirtual 61, 3) := by decide +kernel
theorem dX3_link_51 : decode cX3_link 51 = .ok (.astore 7, 2) := by decide +kernel
theorem dX3_link_53 : decode cX3_link 53 = .ok (.aload 7, 2) := by decide +kernel
theorem dX3_link_55 : decode cX3_link 55 = .ok (.ifnull 14, 3) := by decide +kernel
theorem dX3_link_58 : decode cX3_link 58 = .ok (.iload 5, 2) := by decide +kernel
theorem dX3_link_60 : decode cX3_link 60 = .ok (.aload 7, 2) := by decide +kernel
theorem dX3_link_62 : decode cX3_link 62 = .ok (.iconst 2, 1) := by decide +kernel
theorem dX3_link_63 : decode cX3_link 63 = .ok (.invokevirtual 149, 3) := by decide +kernel
theorem dX3_link_66 : decode cX3_link 66 = .ok (.iadd, 1) := by decide +kernel
theorem dX3_link_67 : decode cX3_link 67 = .ok (.istore 5, 2) := by decide +kernel
theorem dX3_link_69 : decode cX3_link 69 = .ok (.iinc 6 1, 3) := by decide +kernel
theorem dX3_link_72 : decode cX3_link 72 = .ok (.goto (-36), 3) := by decide +kernel
theorem dX3_link_75 : decode cX3_link 75 = .ok (.iload 5, 2) := by decide +kernel
theorem dX3_link_77 : decode cX3_link 77 = .ok (.ireturn, 1) := by decide +kernel
theorem dX3_remove_0 : decode cX3_remove 0 = .ok (.iload_n 1, 1) := by decide +kernel
theorem dX3_remove_1 : decode cX3_remove 1 = .ok (.invokestatic 104, 3) := by decide +kernel
theorem dX3_remove_4 : decode cX3_remove 4 = .ok (.istore_n 2, 1) := by decide +kernel
theorem dX3_remove_5 : decode cX3_remove 5 = .ok (.aload_n 0, 1) := by decide +kernel
theorem dX3_remove_6 : decode cX3_remove 6 = .ok (.iload_n 2, 1) := by decide +kernel
theorem dX3_remove_7 : decode cX3_remove 7 = .ok (.invokevirtual 152, 3) := by decide +kernel
theorem dX3_remove_10 : decode cX3_remove 10 = .ok (.aload_n 0, 1) := by decide +kernel
theorem dX3_remove_11 : decode cX3_remove 11 = .ok (.iload_n 2, 1) := by decide +kernel
theorem dX3_remove_12 : decode cX3_remove 12 = .ok (.invokevirtual 133, 3) := by decide +kernel
theorem dX3_remove_15 : decode cX3_remove 15 = .ok (.invokevirtual 155, 3) := by decide +kernel
theorem dX3_remove_18 : decode cX3_remove 18 = .ok (.istore_n 3, 1) := by decide +kernel
theorem dX3_remove_19 : decode cX3_remove 19 = .ok (.aload_n 0, 1) := by decide +kernel
theorem dX3_remove_20 : decode cX3_remove 20 = .ok (.aload_n 0, 1) := by decide +kernel
theorem dX3_remove_21 : decode cX3_remove 21 = .ok (.iload_n 2, 1) := by decide +kernel
theorem dX3_remove_22 : decode cX3_remove 22 = .ok (.invokevirtual 113, 3) := by decide +kernel
theorem dX3_remove_25 : decode cX3_remove 25 = .ok (.invokevirtual 101, 3) := by decide +kernel
theorem dX3_remove_28 : decode cX3_remove 28 = .ok (.astore 4, 2) := by decide +kernel
theorem dX3_remove_30 : decode cX3_remove 30 = .ok (.aload 4, 2) := by decide +kernel
theorem dX3_remove_32 : decode cX3_remove 32 = .ok (.ifnull 73, 3) := by decide +kernel
theorem dX3_remove_35 : decode cX3_remove 35 = .ok (.aload 4, 2) := by decide +kernel
theorem dX3_remove_37 : decode cX3_remove 37 = .ok (.getfield 158, 3) := by decide +kernel
theorem dX3_remove_40 : decode cX3_remove 40 = .ok (.iconst (-1), 1) := by decide +kernel
theorem dX3_remove_41 : decode cX3_remove 41 = .ok (.if_icmp .eq 27, 3) := by decide +kernel
theorem dX3_remove_44 : decode cX3_remove 44 = .ok (.aload_n 0, 1) := by decide +kernel
theorem dX3_remove_45 : decode cX3_remove 45 = .ok (.aload 4, 2) := by decide +kernel
theorem dX3_remove_47 : decode cX3_remove 47 = .ok (.getfield 161, 3) := by decide +kernel
theorem dX3_remove_50 : decode cX3_remove 50 = .ok (.aload_n 0, 1) := by decide +kernel
theorem dX3_remove_51 : decode cX3_remove 51 = .ok (.iload_n 2, 1) := by decide +kernel
theorem dX3_remove_52 : decode cX3_remove 52 = .ok (.invokevirtual 133, 3) := by decide +kernel
theorem dX3_remove_55 : decode cX3_remove 55 = .ok (.invokevirtual 164, 3) := by decide +kernel
theorem dX3_remove_58 : decode cX3_remove 58 = .ok (.invokestatic 167, 3) := by decide +kernel
theorem dX3_remove_61 : decode cX3_remove 61 = .ok (.ifCond .eq 7, 3) := by decide +kernel
theorem dX3_remove_64 : decode cX3_remove 64 = .ok (.iconst 1, 1) := by decide +kernel
theorem dX3_remove_65 : decode cX3_remove 65 = .ok (.goto 4, 3) := by decide +kernel
theorem dX3_remove_68 : decode cX3_remove 68 = .ok (.iconst 0, 1) := by decide +kernel
theorem dX3_remove_69 : decode cX3_remove 69 = .ok (.istore 5, 2) := by decide +kernel
theorem dX3_remove_71 : decode cX3_remove 71 = .ok (.iload 5, 2) := by decide +kernel
theorem dX3_remove_73 : decode cX3_remove 73 = .ok (.ifCond .eq 7, 3) := by decide +kernel
theorem dX3_remove_76 : decode cX3_remove 76 = .ok (.iconst 3, 1) := by decide +kernel
theorem dX3_remove_77 : decode cX3_remove 77 = .ok (.goto 4, 3) := by decide +kernel
theorem dX3_remove_80 : decode cX3_remove 80 = .ok (.iconst 0, 1) := by decide +kernel
theorem dX3_remove_81 : decode cX3_remove 81 = .ok (.istore 6, 2) := by decide +kernel
theorem dX3_remove_83 : decode cX3_remove 83 = .ok (.aload_n 0, 1) := by decide +kernel
theorem dX3_remove_84 : decode cX3_remove 84 = .ok (.aload_n 0, 1) := by decide +kernel
theorem dX3_remove_85 : decode cX3_remove 85 = .ok (.aload 4, 2) := by decide +kernel
theorem dX3_remove_87 : decode cX3_remove 87 = .ok (.invokevirtual 170, 3) := by decide +kernel
theorem dX3_remove_90 : decode cX3_remove 90 = .ok (.invokevirtual 61, 3) := by decide +kernel
theorem dX3_remove_93 : decode cX3_remove 93 = .ok (.aload_n 0, 1) := by decide +kernel
theorem dX3_remove_94 : decode cX3_remove 94 = .ok (.iload_n 2, 1) := by decide +kernel
theorem dX3_remove_95 : decode cX3_remove 95 = .ok (.invokevirtual 133, 3) := by decide +kernel
theorem dX3_remove_98 : decode cX3_remove 98 = .ok (.iload 6, 2) := by decide +kernel
theorem dX3_remove_100 : decode cX3_remove 100 = .ok (.iconst 0, 1) := by decide +kernel
theorem dX3_remove_101 : decode cX3_remove 101 = .ok (.iconst 0, 1) := by decide +kernel
theorem dX3_remove_102 : decode cX3_remove 102 = .ok (.invokevirtual 174, 3) := by decide +kernel
theorem dX3_remove_105 : decode cX3_remove 105 = .ok (.iload_n 3, 1) := by decide +kernel
theorem dX3_remove_106 : decode cX3_remove 106 = .ok (.ireturn, 1) := by decide +kernel
theorem dX3_shows_0 : decode cX3_shows 0 = .ok (.iload_n 1, 1) := by decide +kernel
theorem dX3_shows_1 : decode cX3_shows 1 = .ok (.invokestatic 104, 3) := by decide +kernel
theorem dX3_shows_4 : decode cX3_shows 4 = .ok (.istore_n 2, 1) := by decide +kernel
theorem dX3_shows_5 : decode cX3_shows 5 = .ok (.aload_n 0, 1) := by decide +kernel
theorem dX3_shows_6 : decode cX3_shows 6 = .ok (.aload_n 0, 1) := by decide +kernel
theorem dX3_shows_7 : decode cX3_shows 7 = .ok (.iload_n 2, 1) := by decide +kernel
theorem dX3_shows_8 : decode cX3_shows 8 = .ok (.invokevirtual 178, 3) := by decide +kernel
theorem dX3_shows_11 : decode cX3_shows 11 = .ok (.aload_n 0, 1) := by decide +kernel
theorem dX3_shows_12 : decode cX3_shows 12 = .ok (.iload_n 2, 1) := by decide +kernel
theorem dX3_shows_13 : decode cX3_shows 13 = .ok (.invokevirtual 133, 3) := by decide +kernel
theorem dX3_shows_16 : decode cX3_shows 16 = .ok (.invokevirtual 164, 3) := by decide +kernel
theorem dX3_shows_19 : decode cX3_shows 19 = .ok (.lookupswitch 31 #[(1, 25), (2, 28)], 25) := by decide +kernel
theorem dX3_shows_44 : decode cX3_shows 44 = .ok (.bipush 102, 2) := by decide +kernel
theorem dX3_shows_46 : decode cX3_shows 46 = .ok (.ireturn, 1) := by decide +kernel
theorem dX3_shows_47 : decode cX3_shows 47 = .ok (.bipush 108, 2) := by decide +kernel
theorem dX3_shows_49 : decode cX3_shows 49 = .ok (.ireturn, 1) := by decide +kernel
theorem dX3_shows_50 : decode cX3_shows 50 = .ok (.bipush 45, 2) := by decide +kernel
theorem dX3_shows_52 : decode cX3_shows 52 = .ok (.ireturn, 1) := by decide +kernel
theorem dX3_layerOf_0 : decode cX3_layerOf 0 = .ok (.aload_n 0, 1) := by decide +kernel
theorem dX3_layerOf_1 : decode cX3_layerOf 1 = .ok (.iload_n 1, 1) := by decide +kernel
theorem dX3_layerOf_2 : decode cX3_layerOf 2 = .ok (.invokestatic 104, 3) := by decide +kernel
theorem dX3_layerOf_5 : decode cX3_layerOf 5 = .ok (.invokevirtual 178, 3) := by decide +kernel
theorem dX3_layerOf_8 : decode cX3_layerOf 8 = .ok (.istore_n 2, 1) := by decide +kernel
theorem dX3_layerOf_9 : decode cX3_layerOf 9 = .ok (.iload_n 2, 1) := by decide +kernel
theorem dX3_layerOf_10 : decode cX3_layerOf 10 = .ok (.iconst (-1), 1) := by decide +kernel
theorem dX3_layerOf_11 : decode cX3_layerOf 11 = .ok (.if_icmp .ne 13, 3) := by decide +kernel
theorem dX3_layerOf_14 : decode cX3_layerOf 14 = .ok (.new 116, 3) := by decide +kernel
theorem dX3_layerOf_17 : decode cX3_layerOf 17 = .ok (.dup, 1) := by decide +kernel
theorem dX3_layerOf_18 : decode cX3_layerOf 18 = .ok (.ldc 181, 2) := by decide +kernel
theorem dX3_layerOf_20 : decode cX3_layerOf 20 = .ok (.invokespecial 120, 3) := by decide +kernel
theorem dX3_layerOf_23 : decode cX3_layerOf 23 = .ok (.athrow, 1) := by decide +kernel
theorem dX3_layerOf_24 : decode cX3_layerOf 24 = .ok (.iload_n 2, 1) := by decide +kernel
theorem dX3_layerOf_25 : decode cX3_layerOf 25 = .ok (.ireturn, 1) := by decide +kernel
theorem dX3_end_0 : decode cX3_end 0 = .ok (.iload_n 1, 1) := by decide +kernel
theorem dX3_end_1 : decode cX3_end 1 = .ok (.invokestatic 104, 3) := by decide +kernel
theorem dX3_end_4 : decode cX3_end 4 = .ok (.pop, 1) := by decide +kernel
theorem dX3_end_5 : decode cX3_end 5 = .ok (.aload_n 0, 1) := by decide +kernel
theorem dX3_end_6 : decode cX3_end 6 = .ok (.iload_n 1, 1) := by decide +kernel
theorem dX3_end_7 : decode cX3_end 7 = .ok (.invokevirtual 183, 3) := by decide +kernel
theorem dX3_end_10 : decode cX3_end 10 = .ok (.ireturn, 1) := by decide +kernel
theorem dX3_size_0 : decode cX3_size 0 = .ok (.iload_n 1, 1) := by decide +kernel
theorem dX3_size_1 : decode cX3_size 1 = .ok (.invokestatic 104, 3) := by decide +kernel
theorem dX3_size_4 : decode cX3_size 4 = .ok (.pop, 1) := by decide +kernel
theorem dX3_size_5 : decode cX3_size 5 = .ok (.aload_n 0, 1) := by decide +kernel
theorem dX3_size_6 : decode cX3_size 6 = .ok (.aload_n 0, 1) := by decide +kernel
theorem dX3_size_7 : decode cX3_size 7 = .ok (.iload_n 1, 1) := by decide +kernel
theorem dX3_size_8 : decode cX3_size 8 = .ok (.invokevirtual 183, 3) := by decide +kernel
theorem dX3_size_11 : decode cX3_size 11 = .ok (.invokestatic 52, 3) := by decide +kernel
theorem dX3_size_14 : decode cX3_size 14 = .ok (.invokevirtual 186, 3) := by decide +kernel
theorem dX3_size_17 : decode cX3_size 17 = .ok (.istore_n 2, 1) := by decide +kernel
theorem dX3_size_18 : decode cX3_size 18 = .ok (.iload_n 2, 1) := by decide +kernel
theorem dX3_size_19 : decode cX3_size 19 = .ok (.iconst (-1), 1) := by decide +kernel
theorem dX3_size_20 : decode cX3_size 20 = .ok (.if_icmp .ne 13, 3) := by decide +kernel
theorem dX3_size_23 : decode cX3_size 23 = .ok (.new 116, 3) := by decide +kernel
theorem dX3_size_26 : decode cX3_size 26 = .ok (.dup, 1) := by decide +kernel
theorem dX3_size_27 : decode cX3_size 27 = .ok (.ldc 189, 2) := by decide +kernel
theorem dX3_size_29 : decode cX3_size 29 = .ok (.invokespecial 120, 3) := by decide +kernel
theorem dX3_size_32 : decode cX3_size 32 = .ok (.athrow, 1) := by decide +kernel
theorem dX3_size_33 : decode cX3_size 33 = .ok (.iload_n 2, 1) := by decide +kernel
theorem dX3_size_34 : decode cX3_size 34 = .ok (.ireturn, 1) := by decide +kernel
theorem dX3_sizeByWalking_0 : decode cX3_sizeByWalking 0 = .ok (.iload_n 1, 1) := by decide +kernel
theorem dX3_sizeByWalking_1 : decode cX3_sizeByWalking 1 = .ok (.invokestatic 104, 3) := by decide +kernel
theorem dX3_sizeByWalking_4 : decode cX3_sizeByWalking 4 = .ok (.pop, 1) := by decide +kernel
theorem dX3_sizeByWalking_5 : decode cX3_sizeByWalking 5 = .ok (.iconst (-1), 1) := by decide +kernel
theorem dX3_sizeByWalking_6 : decode cX3_sizeByWalking 6 = .ok (.istore_n 2, 1) := by decide +kernel
theorem dX3_sizeByWalking_7 : decode cX3_sizeByWalking 7 = .ok (.iconst 0, 1) := by decide +kernel
theorem dX3_sizeByWalking_8 : decode cX3_sizeByWalking 8 = .ok (.istore_n 3, 1) := by decide +kernel
theorem dX3_sizeByWalking_9 : decode cX3_sizeByWalking 9 = .ok (.iload_n 3, 1) := by decide +kernel
theorem dX3_sizeByWalking_10 : decode cX3_sizeByWalking 10 = .ok (.aload_n 0, 1) := by decide +kernel
theorem dX3_sizeByWalking_11 : decode cX3_sizeByWalking 11 = .ok (.getfield 82, 3) := by decide +kernel
theorem dX3_sizeByWalking_14 : decode cX3_sizeByWalking 14 = .ok (.if_icmp .ge 63, 3) := by decide +kernel
theorem dX3_sizeByWalking_17 : decode cX3_sizeByWalking 17 = .ok (.aload_n 0, 1) := by decide +kernel
theorem dX3_sizeByWalking_18 : decode cX3_sizeByWalking 18 = .ok (.iload_n 3, 1) := by decide +kernel
theorem dX3_sizeByWalking_19 : decode cX3_sizeByWalking 19 = .ok (.invokevirtual 101, 3) := by decide +kernel
theorem dX3_sizeByWalking_22 : decode cX3_sizeByWalking 22 = .ok (.astore 4, 2) := by decide +kernel
theorem dX3_sizeByWalking_24 : decode cX3_sizeByWalking 24 = .ok (.aload 4, 2) := by decide +kernel
theorem dX3_sizeByWalking_26 : decode cX3_sizeByWalking 26 = .ok (.ifnonnull 7, 3) := by decide +kernel
theorem dX3_sizeByWalking_29 : decode cX3_sizeByWalking 29 = .ok (.iconst (-1), 1) := by decide +kernel
theorem dX3_sizeByWalking_30 : decode cX3_sizeByWalking 30 = .ok (.goto 12, 3) := by decide +kernel
theorem dX3_sizeByWalking_33 : decode cX3_sizeByWalking 33 = .ok (.aload 4, 2) := by decide +kernel
theorem dX3_sizeByWalking_35 : decode cX3_sizeByWalking 35 = .ok (.getfield 107, 3) := by decide +kernel
theorem dX3_sizeByWalking_38 : decode cX3_sizeByWalking 38 = .ok (.iload_n 1, 1) := by decide +kernel
theorem dX3_sizeByWalking_39 : decode cX3_sizeByWalking 39 = .ok (.invokestatic 191, 3) := by decide +kernel
theorem dX3_sizeByWalking_42 : decode cX3_sizeByWalking 42 = .ok (.istore 5, 2) := by decide +kernel
theorem dX3_sizeByWalking_44 : decode cX3_sizeByWalking 44 = .ok (.iload 5, 2) := by decide +kernel
theorem dX3_sizeByWalking_46 : decode cX3_sizeByWalking 46 = .ok (.iconst (-1), 1) := by decide +kernel
theorem dX3_sizeByWalking_47 : decode cX3_sizeByWalking 47 = .ok (.if_icmp .eq 24, 3) := by decide +kernel
theorem dX3_sizeByWalking_50 : decode cX3_sizeByWalking 50 = .ok (.aload_n 0, 1) := by decide +kernel
theorem dX3_sizeByWalking_51 : decode cX3_sizeByWalking 51 = .ok (.aload_n 0, 1) := by decide +kernel
theorem dX3_sizeByWalking_52 : decode cX3_sizeByWalking 52 = .ok (.aload 4, 2) := by decide +kernel
theorem dX3_sizeByWalking_54 : decode cX3_sizeByWalking 54 = .ok (.iload 5, 2) := by decide +kernel
theorem dX3_sizeByWalking_56 : decode cX3_sizeByWalking 56 = .ok (.invokestatic 52, 3) := by decide +kernel
theorem dX3_sizeByWalking_59 : decode cX3_sizeByWalking 59 = .ok (.invokevirtual 194, 3) := by decide +kernel
theorem dX3_sizeByWalking_62 : decode cX3_sizeByWalking 62 = .ok (.iload 5, 2) := by decide +kernel
theorem dX3_sizeByWalking_64 : decode cX3_sizeByWalking 64 = .ok (.invokestatic 52, 3) := by decide +kernel
theorem dX3_sizeByWalking_67 : decode cX3_sizeByWalking 67 = .ok (.invokevirtual 198, 3) := by decide +kernel
theorem dX3_sizeByWalking_70 : decode cX3_sizeByWalking 70 = .ok (.istore_n 2, 1) := by decide +kernel
theorem dX3_sizeByWalking_71 : decode cX3_sizeByWalking 71 = .ok (.iinc 3 1, 3) := by decide +kernel
theorem dX3_sizeByWalking_74 : decode cX3_sizeByWalking 74 = .ok (.goto (-65), 3) := by decide +kernel
theorem dX3_sizeByWalking_77 : decode cX3_sizeByWalking 77 = .ok (.iload_n 2, 1) := by decide +kernel
theorem dX3_sizeByWalking_78 : decode cX3_sizeByWalking 78 = .ok (.ireturn, 1) := by decide +kernel
theorem dX3_ownerOf_0 : decode cX3_ownerOf 0 = .ok (.iload_n 1, 1) := by decide +kernel
theorem dX3_ownerOf_1 : decode cX3_ownerOf 1 = .ok (.invokestatic 104, 3) := by decide +kernel
theorem dX3_ownerOf_4 : decode cX3_ownerOf 4 = .ok (.istore_n 2, 1) := by decide +kernel
theorem dX3_ownerOf_5 : decode cX3_ownerOf 5 = .ok (.aload_n 0, 1) := by decide +kernel
theorem dX3_ownerOf_6 : decode cX3_ownerOf 6 = .ok (.iload_n 2, 1) := by decide +kernel
theorem dX3_ownerOf_7 : decode cX3_ownerOf 7 = .ok (.invokevirtual 152, 3) := by decide +kernel
theorem dX3_ownerOf_10 : decode cX3_ownerOf 10 = .ok (.aload_n 0, 1) := by decide +kernel
theorem dX3_ownerOf_11 : decode cX3_ownerOf 11 = .ok (.iload_n 2, 1) := by decide +kernel
theorem dX3_ownerOf_12 : decode cX3_ownerOf 12 = .ok (.invokevirtual 133, 3) := by decide +kernel
theorem dX3_ownerOf_15 : decode cX3_ownerOf 15 = .ok (.invokevirtual 201, 3) := by decide +kernel
theorem dX3_ownerOf_18 : decode cX3_ownerOf 18 = .ok (.ireturn, 1) := by decide +kernel
theorem dX3_setQuota_0 : decode cX3_setQuota 0 = .ok (.iload_n 1, 1) := by decide +kernel
theorem dX3_setQuota_1 : decode cX3_setQuota 1 = .ok (.invokestatic 121, 3) := by decide +kernel
theorem dX3_setQuota_4 : decode cX3_setQuota 4 = .ok (.iload_n 2, 1) := by decide +kernel
theorem dX3_setQuota_5 : decode cX3_setQuota 5 = .ok (.ifCond .lt 9, 3) := by decide +kernel
theorem dX3_setQuota_8 : decode cX3_setQuota 8 = .ok (.iload_n 2, 1) := by decide +kernel
theorem dX3_setQuota_9 : decode cX3_setQuota 9 = .ok (.ldc 204, 2) := by decide +kernel
theorem dX3_setQuota_11 : decode cX3_setQuota 11 = .ok (.if_icmp .le 13, 3) := by decide +kernel
theorem dX3_setQuota_14 : decode cX3_setQuota 14 = .ok (.new 56, 3) := by decide +kernel
theorem dX3_setQuota_17 : decode cX3_setQuota 17 = .ok (.dup, 1) := by decide +kernel
theorem dX3_setQuota_18 : decode cX3_setQuota 18 = .ok (.ldc 205, 2) := by decide +kernel
theorem dX3_setQuota_20 : decode cX3_setQuota 20 = .ok (.invokespecial 60, 3) := by decide +kernel
theorem dX3_setQuota_23 : decode cX3_setQuota 23 = .ok (.athrow, 1) := by decide +kernel
theorem dX3_setQuota_24 : decode cX3_setQuota 24 = .ok (.aload_n 0, 1) := by decide +kernel
theorem dX3_setQuota_25 : decode cX3_setQuota 25 = .ok (.iload_n 1, 1) := by decide +kernel
theorem dX3_setQuota_26 : decode cX3_setQuota 26 = .ok (.invokevirtual 140, 3) := by decide +kernel
theorem dX3_setQuota_29 : decode cX3_setQuota 29 = .ok (.istore_n 3, 1) := by decide +kernel
theorem dX3_setQuota_30 : decode cX3_setQuota 30 = .ok (.iload_n 1, 1) := by decide +kernel
theorem dX3_setQuota_31 : decode cX3_setQuota 31 = .ok (.invokestatic 207, 3) := by decide +kernel
theorem dX3_setQuota_34 : decode cX3_setQuota 34 = .ok (.ifCond .eq 10, 3) := by decide +kernel
theorem dX3_setQuota_37 : decode cX3_setQuota 37 = .ok (.aload_n 0, 1) := by decide +kernel
theorem dX3_setQuota_38 : decode cX3_setQuota 38 = .ok (.getfield 31, 3) := by decide +kernel
theorem dX3_setQuota_41 : decode cX3_setQuota 41 = .ok (.iload_n 1, 1) := by decide +kernel
theorem dX3_setQuota_42 : decode cX3_setQuota 42 = .ok (.iload_n 2, 1) := by decide +kernel
theorem dX3_setQuota_43 : decode cX3_setQuota 43 = .ok (.iastore, 1) := by decide +kernel
theorem dX3_setQuota_44 : decode cX3_setQuota 44 = .ok (.iload_n 3, 1) := by decide +kernel
theorem dX3_setQuota_45 : decode cX3_setQuota 45 = .ok (.ireturn, 1) := by decide +kernel
theorem dX3_used_0 : decode cX3_used 0 = .ok (.iload_n 1, 1) := by decide +kernel
theorem dX3_used_1 : decode cX3_used 1 = .ok (.invokestatic 121, 3) := by decide +kernel
theorem dX3_used_4 : decode cX3_used 4 = .ok (.aload_n 0, 1) := by decide +kernel
theorem dX3_used_5 : decode cX3_used 5 = .ok (.iload_n 1, 1) := by decide +kernel
theorem dX3_used_6 : decode cX3_used 6 = .ok (.invokevirtual 130, 3) := by decide +kernel
theorem dX3_used_9 : decode cX3_used 9 = .ok (.ireturn, 1) := by decide +kernel
theorem dX3_usedByLayers_0 : decode cX3_usedByLayers 0 = .ok (.iload_n 1, 1) := by decide +kernel
theorem dX3_usedByLayers_1 : decode cX3_usedByLayers 1 = .ok (.invokestatic 121, 3) := by decide +kernel
theorem dX3_usedByLayers_4 : decode cX3_usedByLayers 4 = .ok (.iconst 0, 1) := by decide +kernel
theorem dX3_usedByLayers_5 : decode cX3_usedByLayers 5 = .ok (.istore_n 2, 1) := by decide +kernel
theorem dX3_usedByLayers_6 : decode cX3_usedByLayers 6 = .ok (.iconst 0, 1) := by decide +kernel
theorem dX3_usedByLayers_7 : decode cX3_usedByLayers 7 = .ok (.istore_n 3, 1) := by decide +kernel
theorem dX3_usedByLayers_8 : decode cX3_usedByLayers 8 = .ok (.iload_n 3, 1) := by decide +kernel
theorem dX3_usedByLayers_9 : decode cX3_usedByLayers 9 = .ok (.aload_n 0, 1) := by decide +kernel
theorem dX3_usedByLayers_10 : decode cX3_usedByLayers 10 = .ok (.getfield 40, 3) := by decide +kernel
theorem dX3_usedByLayers_13 : decode cX3_usedByLayers 13 = .ok (.if_icmp .ge 30, 3) := by decide +kernel
theorem dX3_usedByLayers_16 : decode cX3_usedByLayers 16 = .ok (.aload_n 0, 1) := by decide +kernel
theorem dX3_usedByLayers_17 : decode cX3_usedByLayers 17 = .ok (.iload_n 3, 1) := by decide +kernel
theorem dX3_usedByLayers_18 : decode cX3_usedByLayers 18 = .ok (.invokevirtual 61, 3) := by decide +kernel
theorem dX3_usedByLayers_21 : decode cX3_usedByLayers 21 = .ok (.astore 4, 2) := by decide +kernel
theorem dX3_usedByLayers_23 : decode cX3_usedByLayers 23 = .ok (.aload 4, 2) := by decide +kernel
theorem dX3_usedByLayers_25 : decode cX3_usedByLayers 25 = .ok (.ifnull 12, 3) := by decide +kernel
theorem dX3_usedByLayers_28 : decode cX3_usedByLayers 28 = .ok (.iload_n 2, 1) := by decide +kernel
theorem dX3_usedByLayers_29 : decode cX3_usedByLayers 29 = .ok (.aload 4, 2) := by decide +kernel
theorem dX3_usedByLayers_31 : decode cX3_usedByLayers 31 = .ok (.iload_n 1, 1) := by decide +kernel
theorem dX3_usedByLayers_32 : decode cX3_usedByLayers 32 = .ok (.invokevirtual 210, 3) := by decide +kernel
theorem dX3_usedByLayers_35 : decode cX3_usedByLayers 35 = .ok (.iadd, 1) := by decide +kernel
theorem dX3_usedByLayers_36 : decode cX3_usedByLayers 36 = .ok (.istore_n 2, 1) := by decide +kernel
theorem dX3_usedByLayers_37 : decode cX3_usedByLayers 37 = .ok (.iinc 3 1, 3) := by decide +kernel
theorem dX3_usedByLayers_40 : decode cX3_usedByLayers 40 = .ok (.goto (-32), 3) := by decide +kernel
theorem dX3_usedByLayers_43 : decode cX3_usedByLayers 43 = .ok (.iload_n 2, 1) := by decide +kernel
theorem dX3_usedByLayers_44 : decode cX3_usedByLayers 44 = .ok (.ireturn, 1) := by decide +kernel
theorem dX3_hidden_0 : decode cX3_hidden 0 = .ok (.aload_n 0, 1) := by decide +kernel
theorem dX3_hidden_1 : decode cX3_hidden 1 = .ok (.invokevirtual 213, 3) := by decide +kernel
theorem dX3_hidden_4 : decode cX3_hidden 4 = .ok (.aload_n 0, 1) := by decide +kernel
theorem dX3_hidden_5 : decode cX3_hidden 5 = .ok (.invokevirtual 216, 3) := by decide +kernel
theorem dX3_hidden_8 : decode cX3_hidden 8 = .ok (.isub, 1) := by decide +kernel
theorem dX3_hidden_9 : decode cX3_hidden 9 = .ok (.ireturn, 1) := by decide +kernel
theorem dX3_copies_0 : decode cX3_copies 0 = .ok (.aload_n 0, 1) := by decide +kernel
theorem dX3_copies_1 : decode cX3_copies 1 = .ok (.getfield 219, 3) := by decide +kernel
theorem dX3_copies_4 : decode cX3_copies 4 = .ok (.ireturn, 1) := by decide +kernel
theorem dX3_whiteouts_0 : decode cX3_whiteouts 0 = .ok (.aload_n 0, 1) := by decide +kernel
theorem dX3_whiteouts_1 : decode cX3_whiteouts 1 = .ok (.iload_n 1, 1) := by decide +kernel
theorem dX3_whiteouts_2 : decode cX3_whiteouts 2 = .ok (.invokevirtual 222, 3) := by decide +kernel
theorem dX3_whiteouts_5 : decode cX3_whiteouts 5 = .ok (.iconst 3, 1) := by decide +kernel
theorem dX3_whiteouts_6 : decode cX3_whiteouts 6 = .ok (.invokevirtual 149, 3) := by decide +kernel
theorem dX3_whiteouts_9 : decode cX3_whiteouts 9 = .ok (.ireturn, 1) := by decide +kernel
theorem dX3_backUp_0 : decode cX3_backUp 0 = .ok (.aload_n 0, 1) := by decide +kernel
theorem dX3_backUp_1 : decode cX3_backUp 1 = .ok (.getfield 225, 3) := by decide +kernel
theorem dX3_backUp_4 : decode cX3_backUp 4 = .ok (.ifCond .lt 15, 3) := by decide +kernel
theorem dX3_backUp_7 : decode cX3_backUp 7 = .ok (.aload_n 0, 1) := by decide +kernel
theorem dX3_backUp_8 : decode cX3_backUp 8 = .ok (.getfield 225, 3) := by decide +kernel
theorem dX3_backUp_11 : decode cX3_backUp 11 = .ok (.aload_n 0, 1) := by decide +kernel
theorem dX3_backUp_12 : decode cX3_backUp 12 = .ok (.getfield 23, 3) := by decide +kernel
theorem dX3_backUp_15 : decode cX3_backUp 15 = .ok (.arraylength, 1) := by decide +kernel
theorem dX3_backUp_16 : decode cX3_backUp 16 = .ok (.if_icmp .lt 13, 3) := by decide +kernel
theorem dX3_backUp_19 : decode cX3_backUp 19 = .ok (.new 44, 3) := by decide +kernel
theorem dX3_backUp_22 : decode cX3_backUp 22 = .ok (.dup, 1) := by decide +kernel
theorem dX3_backUp_23 : decode cX3_backUp 23 = .ok (.ldc 228, 2) := by decide +kernel
theorem dX3_backUp_25 : decode cX3_backUp 25 = .ok (.invokespecial 48, 3) := by decide +kernel
theorem dX3_backUp_28 : decode cX3_backUp 28 = .ok (.athrow, 1) := by decide +kernel
theorem dX3_backUp_29 : decode cX3_backUp 29 = .ok (.new 21, 3) := by decide +kernel
theorem dX3_backUp_32 : decode cX3_backUp 32 = .ok (.dup, 1) := by decide +kernel
theorem dX3_backUp_33 : decode cX3_backUp 33 = .ok (.iload_n 1, 1) := by decide +kernel
theorem dX3_backUp_34 : decode cX3_backUp 34 = .ok (.invokespecial 230, 3) := by decide +kernel
theorem dX3_backUp_37 : decode cX3_backUp 37 = .ok (.astore_n 2, 1) := by decide +kernel
theorem dX3_backUp_38 : decode cX3_backUp 38 = .ok (.iconst 0, 1) := by decide +kernel
theorem dX3_backUp_39 : decode cX3_backUp 39 = .ok (.istore_n 3, 1) := by decide +kernel
theorem dX3_backUp_40 : decode cX3_backUp 40 = .ok (.iload_n 3, 1) := by decide +kernel
theorem dX3_backUp_41 : decode cX3_backUp 41 = .ok (.aload_n 2, 1) := by decide +kernel
theorem dX3_backUp_42 : decode cX3_backUp 42 = .ok (.getfield 233, 3) := by decide +kernel
theorem dX3_backUp_45 : decode cX3_backUp 45 = .ok (.arraylength, 1) := by decide +kernel
theorem dX3_backUp_46 : decode cX3_backUp 46 = .ok (.if_icmp .ge 21, 3) := by decide +kernel
theorem dX3_backUp_49 : decode cX3_backUp 49 = .ok (.aload_n 2, 1) := by decide +kernel
theorem dX3_backUp_50 : decode cX3_backUp 50 = .ok (.getfield 233, 3) := by decide +kernel
theorem dX3_backUp_53 : decode cX3_backUp 53 = .ok (.iload_n 3, 1) := by decide +kernel
theorem dX3_backUp_54 : decode cX3_backUp 54 = .ok (.aload_n 0, 1) := by decide +kernel
theorem dX3_backUp_55 : decode cX3_backUp 55 = .ok (.iload_n 1, 1) := by decide +kernel
theorem dX3_backUp_56 : decode cX3_backUp 56 = .ok (.iload_n 3, 1) := by decide +kernel
theorem dX3_backUp_57 : decode cX3_backUp 57 = .ok (.invokevirtual 236, 3) := by decide +kernel
theorem dX3_backUp_60 : decode cX3_backUp 60 = .ok (.iastore, 1) := by decide +kernel
theorem dX3_backUp_61 : decode cX3_backUp 61 = .ok (.iinc 3 1, 3) := by decide +kernel
theorem dX3_backUp_64 : decode cX3_backUp 64 = .ok (.goto (-24), 3) := by decide +kernel
theorem dX3_backUp_67 : decode cX3_backUp 67 = .ok (.aload_n 0, 1) := by decide +kernel
theorem dX3_backUp_68 : decode cX3_backUp 68 = .ok (.getfield 225, 3) := by decide +kernel
theorem dX3_backUp_71 : decode cX3_backUp 71 = .ok (.istore_n 3, 1) := by decide +kernel
theorem dX3_backUp_72 : decode cX3_backUp 72 = .ok (.aload_n 0, 1) := by decide +kernel
theorem dX3_backUp_73 : decode cX3_backUp 73 = .ok (.getfield 23, 3) := by decide +kernel
theorem dX3_backUp_76 : decode cX3_backUp 76 = .ok (.iload_n 3, 1) := by decide +kernel
theorem dX3_backUp_77 : decode cX3_backUp 77 = .ok (.aload_n 2, 1) := by decide +kernel
theorem dX3_backUp_78 : decode cX3_backUp 78 = .ok (.aastore, 1) := by decide +kernel
theorem dX3_backUp_79 : decode cX3_backUp 79 = .ok (.aload_n 0, 1) := by decide +kernel
theorem dX3_backUp_80 : decode cX3_backUp 80 = .ok (.dup, 1) := by decide +kernel
theorem dX3_backUp_81 : decode cX3_backUp 81 = .ok (.getfield 225, 3) := by decide +kernel
theorem dX3_backUp_84 : decode cX3_backUp 84 = .ok (.iconst 1, 1) := by decide +kernel
theorem dX3_backUp_85 : decode cX3_backUp 85 = .ok (.iadd, 1) := by decide +kernel
theorem dX3_backUp_86 : decode cX3_backUp 86 = .ok (.putfield 225, 3) := by decide +kernel
theorem dX3_backUp_89 : decode cX3_backUp 89 = .ok (.iload_n 3, 1) := by decide +kernel
theorem dX3_backUp_90 : decode cX3_backUp 90 = .ok (.ireturn, 1) := by decide +kernel
theorem dX3_bytes_0 : decode cX3_bytes 0 = .ok (.aload_n 0, 1) := by decide +kernel
theorem dX3_bytes_1 : decode cX3_bytes 1 = .ok (.iload_n 1, 1) := by decide +kernel
theorem dX3_bytes_2 : decode cX3_bytes 2 = .ok (.invokevirtual 240, 3) := by decide +kernel
theorem dX3_bytes_5 : decode cX3_bytes 5 = .ok (.invokevirtual 244, 3) := by decide +kernel
theorem dX3_bytes_8 : decode cX3_bytes 8 = .ok (.ireturn, 1) := by decide +kernel
theorem dX3_differences_0 : decode cX3_differences 0 = .ok (.aload_n 0, 1) := by decide +kernel
theorem dX3_differences_1 : decode cX3_differences 1 = .ok (.iload_n 1, 1) := by decide +kernel
theorem dX3_differences_2 : decode cX3_differences 2 = .ok (.invokevirtual 240, 3) := by decide +kernel
theorem dX3_differences_5 : decode cX3_differences 5 = .ok (.astore_n 2, 1) := by decide +kernel
theorem dX3_differences_6 : decode cX3_differences 6 = .ok (.iconst 0, 1) := by decide +kernel
theorem dX3_differences_7 : decode cX3_differences 7 = .ok (.istore_n 3, 1) := by decide +kernel
theorem dX3_differences_8 : decode cX3_differences 8 = .ok (.iconst 0, 1) := by decide +kernel
theorem dX3_differences_9 : decode cX3_differences 9 = .ok (.istore 4, 2) := by decide +kernel
theorem dX3_differences_11 : decode cX3_differences 11 = .ok (.iload 4, 2) := by decide +kernel
theorem dX3_differences_13 : decode cX3_differences 13 = .ok (.aload_n 2, 1) := by decide +kernel
theorem dX3_differences_14 : decode cX3_differences 14 = .ok (.getfield 233, 3) := by decide +kernel
theorem dX3_differences_17 : decode cX3_differences 17 = .ok (.arraylength, 1) := by decide +kernel
theorem dX3_differences_18 : decode cX3_differences 18 = .ok (.if_icmp .ge 32, 3) := by decide +kernel
theorem dX3_differences_21 : decode cX3_differences 21 = .ok (.aload_n 2, 1) := by decide +kernel
theorem dX3_differences_22 : decode cX3_differences 22 = .ok (.getfield 233, 3) := by decide +kernel
theorem dX3_differences_25 : decode cX3_differences 25 = .ok (.iload 4, 2) := by decide +kernel
theorem dX3_differences_27 : decode cX3_differences 27 = .ok (.iaload, 1) := by decide +kernel
theorem dX3_differences_28 : decode cX3_differences 28 = .ok (.aload_n 0, 1) := by decide +kernel
theorem dX3_differences_29 : decode cX3_differences 29 = .ok (.aload_n 2, 1) := by decide +kernel
theorem dX3_differences_30 : decode cX3_differences 30 = .ok (.getfield 247, 3) := by decide +kernel
theorem dX3_differences_33 : decode cX3_differences 33 = .ok (.iload 4, 2) := by decide +kernel
theorem dX3_differences_35 : decode cX3_differences 35 = .ok (.invokevirtual 236, 3) := by decide +kernel
theorem dX3_differences_38 : decode cX3_differences 38 = .ok (.if_icmp .eq 6, 3) := by decide +kernel
theorem dX3_differences_41 : decode cX3_differences 41 = .ok (.iinc 3 1, 3) := by decide +kernel
theorem dX3_differences_44 : decode cX3_differences 44 = .ok (.iinc 4 1, 3) := by decide +kernel
theorem dX3_differences_47 : decode cX3_differences 47 = .ok (.goto (-36), 3) := by decide +kernel
theorem dX3_differences_50 : decode cX3_differences 50 = .ok (.iload_n 3, 1) := by decide +kernel
theorem dX3_differences_51 : decode cX3_differences 51 = .ok (.ireturn, 1) := by decide +kernel
theorem dX3_shownShare_0 : decode cX3_shownShare 0 = .ok (.aload_n 0, 1) := by decide +kernel
theorem dX3_shownShare_1 : decode cX3_shownShare 1 = .ok (.invokevirtual 213, 3) := by decide +kernel
theorem dX3_shownShare_4 : decode cX3_shownShare 4 = .ok (.istore_n 1, 1) := by decide +kernel
theorem dX3_shownShare_5 : decode cX3_shownShare 5 = .ok (.iload_n 1, 1) := by decide +kernel
theorem dX3_shownShare_6 : decode cX3_shownShare 6 = .ok (.ifCond .ne 13, 3) := by decide +kernel
theorem dX3_shownShare_9 : decode cX3_shownShare 9 = .ok (.new 250, 3) := by decide +kernel
theorem dX3_shownShare_12 : decode cX3_shownShare 12 = .ok (.dup, 1) := by decide +kernel
theorem dX3_shownShare_13 : decode cX3_shownShare 13 = .ok (.ldc 252, 2) := by decide +kernel
theorem dX3_shownShare_15 : decode cX3_shownShare 15 = .ok (.invokespecial 254, 3) := by decide +kernel
theorem dX3_shownShare_18 : decode cX3_shownShare 18 = .ok (.athrow, 1) := by decide +kernel
theorem dX3_shownShare_19 : decode cX3_shownShare 19 = .ok (.aload_n 0, 1) := by decide +kernel
theorem dX3_shownShare_20 : decode cX3_shownShare 20 = .ok (.invokevirtual 216, 3) := by decide +kernel
theorem dX3_shownShare_23 : decode cX3_shownShare 23 = .ok (.i2f, 1) := by decide +kernel
theorem dX3_shownShare_24 : decode cX3_shownShare 24 = .ok (.iload_n 1, 1) := by decide +kernel
theorem dX3_shownShare_25 : decode cX3_shownShare 25 = .ok (.i2f, 1) := by decide +kernel
theorem dX3_shownShare_26 : decode cX3_shownShare 26 = .ok (.fdiv, 1) := by decide +kernel
theorem dX3_shownShare_27 : decode cX3_shownShare 27 = .ok (.freturn, 1) := by decide +kernel
theorem dX3_meanSize_0 : decode cX3_meanSize 0 = .ok (.aload_n 0, 1) := by decide +kernel
theorem dX3_meanSize_1 : decode cX3_meanSize 1 = .ok (.iload_n 1, 1) := by decide +kernel
theorem dX3_meanSize_2 : decode cX3_meanSize 2 = .ok (.invokevirtual 222, 3) := by decide +kernel
theorem dX3_meanSize_5 : decode cX3_meanSize 5 = .ok (.astore_n 2, 1) := by decide +kernel
theorem dX3_meanSize_6 : decode cX3_meanSize 6 = .ok (.aload_n 2, 1) := by decide +kernel
theorem dX3_meanSize_7 : decode cX3_meanSize 7 = .ok (.iconst 1, 1) := by decide +kernel
theorem dX3_meanSize_8 : decode cX3_meanSize 8 = .ok (.invokevirtual 149, 3) := by decide +kernel
theorem dX3_meanSize_11 : decode cX3_meanSize 11 = .ok (.istore_n 3, 1) := by decide +kernel
theorem dX3_meanSize_12 : decode cX3_meanSize 12 = .ok (.iload_n 3, 1) := by decide +kernel
theorem dX3_meanSize_13 : decode cX3_meanSize 13 = .ok (.ifCond .ne 13, 3) := by decide +kernel
theorem dX3_meanSize_16 : decode cX3_meanSize 16 = .ok (.new 250, 3) := by decide +kernel
theorem dX3_meanSize_19 : decode cX3_meanSize 19 = .ok (.dup, 1) := by decide +kernel
theorem dX3_meanSize_20 : decode cX3_meanSize 20 = .ok (.ldc 255, 2) := by decide +kernel
theorem dX3_meanSize_22 : decode cX3_meanSize 22 = .ok (.invokespecial 254, 3) := by decide +kernel
theorem dX3_meanSize_25 : decode cX3_meanSize 25 = .ok (.athrow, 1) := by decide +kernel
theorem dX3_meanSize_26 : decode cX3_meanSize 26 = .ok (.aload_n 2, 1) := by decide +kernel
theorem dX3_meanSize_27 : decode cX3_meanSize 27 = .ok (.invokevirtual 257, 3) := by decide +kernel
theorem dX3_meanSize_30 : decode cX3_meanSize 30 = .ok (.i2d, 1) := by decide +kernel
theorem dX3_meanSize_31 : decode cX3_meanSize 31 = .ok (.iload_n 3, 1) := by decide +kernel
theorem dX3_meanSize_32 : decode cX3_meanSize 32 = .ok (.i2d, 1) := by decide +kernel
theorem dX3_meanSize_33 : decode cX3_meanSize 33 = .ok (.ddiv, 1) := by decide +kernel
theorem dX3_meanSize_34 : decode cX3_meanSize 34 = .ok (.dreturn, 1) := by decide +kernel
theorem dX3_placeOf_0 : decode cX3_placeOf 0 = .ok (.iload_n 0, 1) := by decide +kernel
theorem dX3_placeOf_1 : decode cX3_placeOf 1 = .ok (.ifCond .lt 10, 3) := by decide +kernel
theorem dX3_placeOf_4 : decode cX3_placeOf 4 = .ok (.iload_n 0, 1) := by decide +kernel
theorem dX3_placeOf_5 : decode cX3_placeOf 5 = .ok (.sipush 4444, 3) := by decide +kernel
theorem dX3_placeOf_8 : decode cX3_placeOf 8 = .ok (.if_icmp .le 5, 3) := by decide +kernel
theorem dX3_placeOf_11 : decode cX3_placeOf 11 = .ok (.iconst (-1), 1) := by decide +kernel
theorem dX3_placeOf_12 : decode cX3_placeOf 12 = .ok (.ireturn, 1) := by decide +kernel
theorem dX3_placeOf_13 : decode cX3_placeOf 13 = .ok (.iconst 0, 1) := by decide +kernel
theorem dX3_placeOf_14 : decode cX3_placeOf 14 = .ok (.istore_n 1, 1) := by decide +kernel
theorem dX3_placeOf_15 : decode cX3_placeOf 15 = .ok (.sipush 1000, 3) := by decide +kernel
theorem dX3_placeOf_18 : decode cX3_placeOf 18 = .ok (.istore_n 2, 1) := by decide +kernel
theorem dX3_placeOf_19 : decode cX3_placeOf 19 = .ok (.iload_n 2, 1) := by decide +kernel
theorem dX3_placeOf_20 : decode cX3_placeOf 20 = .ok (.ifCond .le 51, 3) := by decide +kernel
theorem dX3_placeOf_23 : decode cX3_placeOf 23 = .ok (.iload_n 0, 1) := by decide +kernel
theorem dX3_placeOf_24 : decode cX3_placeOf 24 = .ok (.iload_n 2, 1) := by decide +kernel
theorem dX3_placeOf_25 : decode cX3_placeOf 25 = .ok (.idiv, 1) := by decide +kernel
theorem dX3_placeOf_26 : decode cX3_placeOf 26 = .ok (.bipush 10, 2) := by decide +kernel
theorem dX3_placeOf_28 : decode cX3_placeOf 28 = .ok (.irem, 1) := by decide +kernel
theorem dX3_placeOf_29 : decode cX3_placeOf 29 = .ok (.istore_n 3, 1) := by decide +kernel
theorem dX3_placeOf_30 : decode cX3_placeOf 30 = .ok (.iload_n 3, 1) := by decide +kernel
theorem dX3_placeOf_31 : decode cX3_placeOf 31 = .ok (.ifCond .ne 11, 3) := by decide +kernel
theorem dX3_placeOf_34 : decode cX3_placeOf 34 = .ok (.iload_n 1, 1) := by decide +kernel
theorem dX3_placeOf_35 : decode cX3_placeOf 35 = .ok (.ifCond .le 7, 3) := by decide +kernel
theorem dX3_placeOf_38 : decode cX3_placeOf 38 = .ok (.iconst 1, 1) := by decide +kernel
theorem dX3_placeOf_39 : decode cX3_placeOf 39 = .ok (.goto 4, 3) := by decide +kernel
theorem dX3_placeOf_42 : decode cX3_placeOf 42 = .ok (.iconst 0, 1) := by decide +kernel
theorem dX3_placeOf_43 : decode cX3_placeOf 43 = .ok (.istore 4, 2) := by decide +kernel
theorem dX3_placeOf_45 : decode cX3_placeOf 45 = .ok (.iload_n 3, 1) := by decide +kernel
theorem dX3_placeOf_46 : decode cX3_placeOf 46 = .ok (.iconst 4, 1) := by decide +kernel
theorem dX3_placeOf_47 : decode cX3_placeOf 47 = .ok (.if_icmp .gt 8, 3) := by decide +kernel
theorem dX3_placeOf_50 : decode cX3_placeOf 50 = .ok (.iload 4, 2) := by decide +kernel
theorem dX3_placeOf_52 : decode cX3_placeOf 52 = .ok (.ifCond .eq 5, 3) := by decide +kernel
theorem dX3_placeOf_55 : decode cX3_placeOf 55 = .ok (.iconst (-1), 1) := by decide +kernel
theorem dX3_placeOf_56 : decode cX3_placeOf 56 = .ok (.ireturn, 1) := by decide +kernel
theorem dX3_placeOf_57 : decode cX3_placeOf 57 = .ok (.iload_n 1, 1) := by decide +kernel
theorem dX3_placeOf_58 : decode cX3_placeOf 58 = .ok (.iconst 4, 1) := by decide +kernel
theorem dX3_placeOf_59 : decode cX3_placeOf 59 = .ok (.imul, 1) := by decide +kernel
theorem dX3_placeOf_60 : decode cX3_placeOf 60 = .ok (.iload_n 3, 1) := by decide +kernel
theorem dX3_placeOf_61 : decode cX3_placeOf 61 = .ok (.iadd, 1) := by decide +kernel
theorem dX3_placeOf_62 : decode cX3_placeOf 62 = .ok (.istore_n 1, 1) := by decide +kernel
theorem dX3_placeOf_63 : decode cX3_placeOf 63 = .ok (.iload_n 2, 1) := by decide +kernel
theorem dX3_placeOf_64 : decode cX3_placeOf 64 = .ok (.bipush 10, 2) := by decide +kernel
theorem dX3_placeOf_66 : decode cX3_placeOf 66 = .ok (.idiv, 1) := by decide +kernel
theorem dX3_placeOf_67 : decode cX3_placeOf 67 = .ok (.istore_n 2, 1) := by decide +kernel
theorem dX3_placeOf_68 : decode cX3_placeOf 68 = .ok (.goto (-49), 3) := by decide +kernel
theorem dX3_placeOf_71 : decode cX3_placeOf 71 = .ok (.iload_n 1, 1) := by decide +kernel
theorem dX3_placeOf_72 : decode cX3_placeOf 72 = .ok (.ireturn, 1) := by decide +kernel
theorem dX3_isPlace_0 : decode cX3_isPlace 0 = .ok (.iload_n 0, 1) := by decide +kernel
theorem dX3_isPlace_1 : decode cX3_isPlace 1 = .ok (.ifCond .lt 14, 3) := by decide +kernel
theorem dX3_isPlace_4 : decode cX3_isPlace 4 = .ok (.iload_n 0, 1) := by decide +kernel
theorem dX3_isPlace_5 : decode cX3_isPlace 5 = .ok (.sipush 341, 3) := by decide +kernel
theorem dX3_isPlace_8 : decode cX3_isPlace 8 = .ok (.if_icmp .ge 7, 3) := by decide +kernel
theorem dX3_isPlace_11 : decode cX3_isPlace 11 = .ok (.iconst 1, 1) := by decide +kernel
theorem dX3_isPlace_12 : decode cX3_isPlace 12 = .ok (.goto 4, 3) := by decide +kernel
theorem dX3_isPlace_15 : decode cX3_isPlace 15 = .ok (.iconst 0, 1) := by decide +kernel
theorem dX3_isPlace_16 : decode cX3_isPlace 16 = .ok (.ireturn, 1) := by decide +kernel
theorem dX3_checkedPlace_0 : decode cX3_checkedPlace 0 = .ok (.iload_n 0, 1) := by decide +kernel
theorem dX3_checkedPlace_1 : decode cX3_checkedPlace 1 = .ok (.invokestatic 52, 3) := by decide +kernel
theorem dX3_checkedPlace_4 : decode cX3_checkedPlace 4 = .ok (.istore_n 1, 1) := by decide +kernel
theorem dX3_checkedPlace_5 : decode cX3_checkedPlace 5 = .ok (.iload_n 1, 1) := by decide +kernel
theorem dX3_checkedPlace_6 : decode cX3_checkedPlace 6 = .ok (.iconst (-1), 1) := by decide +kernel
theorem dX3_checkedPlace_7 : decode cX3_checkedPlace 7 = .ok (.if_icmp .ne 14, 3) := by decide +kernel
theorem dX3_checkedPlace_10 : decode cX3_checkedPlace 10 = .ok (.new 56, 3) := by decide +kernel
theorem dX3_checkedPlace_13 : decode cX3_checkedPlace 13 = .ok (.dup, 1) := by decide +kernel
theorem dX3_checkedPlace_14 : decode cX3_checkedPlace 14 = .ok (.ldc_w 260, 3) := by decide +kernel
theorem dX3_checkedPlace_17 : decode cX3_checkedPlace 17 = .ok (.invokespecial 60, 3) := by decide +kernel
theorem dX3_checkedPlace_20 : decode cX3_checkedPlace 20 = .ok (.athrow, 1) := by decide +kernel
theorem dX3_checkedPlace_21 : decode cX3_checkedPlace 21 = .ok (.iload_n 1, 1) := by decide +kernel
theorem dX3_checkedPlace_22 : decode cX3_checkedPlace 22 = .ok (.ireturn, 1) := by decide +kernel
theorem dX3_restBehind_0 : decode cX3_restBehind 0 = .ok (.iconst 1, 1) := by decide +kernel
theorem dX3_restBehind_1 : decode cX3_restBehind 1 = .ok (.istore_n 2, 1) := by decide +kernel
theorem dX3_restBehind_2 : decode cX3_restBehind 2 = .ok (.iconst 0, 1) := by decide +kernel
theorem dX3_restBehind_3 : decode cX3_restBehind 3 = .ok (.istore_n 3, 1) := by decide +kernel
theorem dX3_restBehind_4 : decode cX3_restBehind 4 = .ok (.iload_n 3, 1) := by decide +kernel
theorem dX3_restBehind_5 : decode cX3_restBehind 5 = .ok (.iconst 4, 1) := by decide +kernel
theorem dX3_restBehind_6 : decode cX3_restBehind 6 = .ok (.if_icmp .gt 25, 3) := by decide +kernel
theorem dX3_restBehind_9 : decode cX3_restBehind 9 = .ok (.iload_n 1, 1) := by decide +kernel
theorem dX3_restBehind_10 : decode cX3_restBehind 10 = .ok (.iload_n 2, 1) := by decide +kernel
theorem dX3_restBehind_11 : decode cX3_restBehind 11 = .ok (.idiv, 1) := by decide +kernel
theorem dX3_restBehind_12 : decode cX3_restBehind 12 = .ok (.iload_n 0, 1) := by decide +kernel
theorem dX3_restBehind_13 : decode cX3_restBehind 13 = .ok (.if_icmp .ne 7, 3) := by decide +kernel
theorem dX3_restBehind_16 : decode cX3_restBehind 16 = .ok (.iload_n 1, 1) := by decide +kernel
theorem dX3_restBehind_17 : decode cX3_restBehind 17 = .ok (.iload_n 2, 1) := by decide +kernel
theorem dX3_restBehind_18 : decode cX3_restBehind 18 = .ok (.irem, 1) := by decide +kernel
theorem dX3_restBehind_19 : decode cX3_restBehind 19 = .ok (.ireturn, 1) := by decide +kernel
theorem dX3_restBehind_20 : decode cX3_restBehind 20 = .ok (.iload_n 2, 1) := by decide +kernel
theorem dX3_restBehind_21 : decode cX3_restBehind 21 = .ok (.bipush 10, 2) := by decide +kernel
theorem dX3_restBehind_23 : decode cX3_restBehind 23 = .ok (.imul, 1) := by decide +kernel
theorem dX3_restBehind_24 : decode cX3_restBehind 24 = .ok (.istore_n 2, 1) := by decide +kernel
theorem dX3_restBehind_25 : decode cX3_restBehind 25 = .ok (.iinc 3 1, 3) := by decide +kernel
theorem dX3_restBehind_28 : decode cX3_restBehind 28 = .ok (.goto (-24), 3) := by decide +kernel
theorem dX3_restBehind_31 : decode cX3_restBehind 31 = .ok (.iconst (-1), 1) := by decide +kernel
theorem dX3_restBehind_32 : decode cX3_restBehind 32 = .ok (.ireturn, 1) := by decide +kernel
theorem dX3_isOwner_0 : decode cX3_isOwner 0 = .ok (.iload_n 0, 1) := by decide +kernel
theorem dX3_isOwner_1 : decode cX3_isOwner 1 = .ok (.ifCond .lt 12, 3) := by decide +kernel
theorem dX3_isOwner_4 : decode cX3_isOwner 4 = .ok (.iload_n 0, 1) := by decide +kernel
theorem dX3_isOwner_5 : decode cX3_isOwner 5 = .ok (.iconst 4, 1) := by decide +kernel
theorem dX3_isOwner_6 : decode cX3_isOwner 6 = .ok (.if_icmp .ge 7, 3) := by decide +kernel
theorem dX3_isOwner_9 : decode cX3_isOwner 9 = .ok (.iconst 1, 1) := by decide +kernel
theorem dX3_isOwner_10 : decode cX3_isOwner 10 = .ok (.goto 4, 3) := by decide +kernel
theorem dX3_isOwner_13 : decode cX3_isOwner 13 = .ok (.iconst 0, 1) := by decide +kernel
theorem dX3_isOwner_14 : decode cX3_isOwner 14 = .ok (.ireturn, 1) := by decide +kernel
theorem dX3_checkOwner_0 : decode cX3_checkOwner 0 = .ok (.iload_n 0, 1) := by decide +kernel
theorem dX3_checkOwner_1 : decode cX3_checkOwner 1 = .ok (.invokestatic 207, 3) := by decide +kernel
theorem dX3_checkOwner_4 : decode cX3_checkOwner 4 = .ok (.ifCond .ne 14, 3) := by decide +kernel
theorem dX3_checkOwner_7 : decode cX3_checkOwner 7 = .ok (.new 56, 3) := by decide +kernel
theorem dX3_checkOwner_10 : decode cX3_checkOwner 10 = .ok (.dup, 1) := by decide +kernel
theorem dX3_checkOwner_11 : decode cX3_checkOwner 11 = .ok (.ldc_w 262, 3) := by decide +kernel
theorem dX3_checkOwner_14 : decode cX3_checkOwner 14 = .ok (.invokespecial 60, 3) := by decide +kernel
theorem dX3_checkOwner_17 : decode cX3_checkOwner 17 = .ok (.athrow, 1) := by decide +kernel
theorem dX3_checkOwner_18 : decode cX3_checkOwner 18 = .ok (.return_, 1) := by decide +kernel
theorem dX3_usedBy_0 : decode cX3_usedBy 0 = .ok (.iload_n 1, 1) := by decide +kernel
theorem dX3_usedBy_1 : decode cX3_usedBy 1 = .ok (.invokestatic 207, 3) := by decide +kernel
theorem dX3_usedBy_4 : decode cX3_usedBy 4 = .ok (.ifCond .eq 12, 3) := by decide +kernel
theorem dX3_usedBy_7 : decode cX3_usedBy 7 = .ok (.aload_n 0, 1) := by decide +kernel
theorem dX3_usedBy_8 : decode cX3_usedBy 8 = .ok (.getfield 27, 3) := by decide +kernel
theorem dX3_usedBy_11 : decode cX3_usedBy 11 = .ok (.iload_n 1, 1) := by decide +kernel
theorem dX3_usedBy_12 : decode cX3_usedBy 12 = .ok (.iaload, 1) := by decide +kernel
theorem dX3_usedBy_13 : decode cX3_usedBy 13 = .ok (.goto 4, 3) := by decide +kernel
theorem dX3_usedBy_16 : decode cX3_usedBy 16 = .ok (.iconst 0, 1) := by decide +kernel
theorem dX3_usedBy_17 : decode cX3_usedBy 17 = .ok (.ireturn, 1) := by decide +kernel
theorem dX3_quotaOf_0 : decode cX3_quotaOf 0 = .ok (.iload_n 1, 1) := by decide +kernel
theorem dX3_quotaOf_1 : decode cX3_quotaOf 1 = .ok (.invokestatic 207, 3) := by decide +kernel
theorem dX3_quotaOf_4 : decode cX3_quotaOf 4 = .ok (.ifCond .eq 12, 3) := by decide +kernel
theorem dX3_quotaOf_7 : decode cX3_quotaOf 7 = .ok (.aload_n 0, 1) := by decide +kernel
theorem dX3_quotaOf_8 : decode cX3_quotaOf 8 = .ok (.getfield 31, 3) := by decide +kernel
theorem dX3_quotaOf_11 : decode cX3_quotaOf 11 = .ok (.iload_n 1, 1) := by decide +kernel
theorem dX3_quotaOf_12 : decode cX3_quotaOf 12 = .ok (.iaload, 1) := by decide +kernel
theorem dX3_quotaOf_13 : decode cX3_quotaOf 13 = .ok (.goto 4, 3) := by decide +kernel
theorem dX3_quotaOf_16 : decode cX3_quotaOf 16 = .ok (.iconst 0, 1) := by decide +kernel
theorem dX3_quotaOf_17 : decode cX3_quotaOf 17 = .ok (.ireturn, 1) := by decide +kernel
theorem dX3_use_0 : decode cX3_use 0 = .ok (.iload_n 1, 1) := by decide +kernel
theorem dX3_use_1 : decode cX3_use 1 = .ok (.invokestatic 207, 3) := by decide +kernel
theorem dX3_use_4 : decode cX3_use 4 = .ok (.ifCond .eq 13, 3) := by decide +kernel
theorem dX3_use_7 : decode cX3_use 7 = .ok (.aload_n 0, 1) := by decide +kernel
theorem dX3_use_8 : decode cX3_use 8 = .ok (.getfield 27, 3) := by decide +kernel
theorem dX3_use_11 : decode cX3_use 11 = .ok (.iload_n 1, 1) := by decide +kernel
theorem dX3_use_12 : decode cX3_use 12 = .ok (.dup2, 1) := by decide +kernel
theorem dX3_use_13 : decode cX3_use 13 = .ok (.iaload, 1) := by decide +kernel
theorem dX3_use_14 : decode cX3_use 14 = .ok (.iload_n 2, 1) := by decide +kernel
theorem dX3_use_15 : decode cX3_use 15 = .ok (.iadd, 1) := by decide +kernel
theorem dX3_use_16 : decode cX3_use 16 = .ok (.iastore, 1) := by decide +kernel
theorem dX3_use_17 : decode cX3_use 17 = .ok (.return_, 1) := by decide +kernel
theorem dX3_allBytes_0 : decode cX3_allBytes 0 = .ok (.iconst 0, 1) := by decide +kernel
theorem dX3_allBytes_1 : decode cX3_allBytes 1 = .ok (.istore_n 1, 1) := by decide +kernel
theorem dX3_allBytes_2 : decode cX3_allBytes 2 = .ok (.iconst 0, 1) := by decide +kernel
theorem dX3_allBytes_3 : decode cX3_allBytes 3 = .ok (.istore_n 2, 1) := by decide +kernel
theorem dX3_allBytes_4 : decode cX3_allBytes 4 = .ok (.iload_n 2, 1) := by decide +kernel
theorem dX3_allBytes_5 : decode cX3_allBytes 5 = .ok (.iconst 4, 1) := by decide +kernel
theorem dX3_allBytes_6 : decode cX3_allBytes 6 = .ok (.if_icmp .ge 17, 3) := by decide +kernel
theorem dX3_allBytes_9 : decode cX3_allBytes 9 = .ok (.iload_n 1, 1) := by decide +kernel
theorem dX3_allBytes_10 : decode cX3_allBytes 10 = .ok (.aload_n 0, 1) := by decide +kernel
theorem dX3_allBytes_11 : decode cX3_allBytes 11 = .ok (.iload_n 2, 1) := by decide +kernel
theorem dX3_allBytes_12 : decode cX3_allBytes 12 = .ok (.invokevirtual 130, 3) := by decide +kernel
theorem dX3_allBytes_15 : decode cX3_allBytes 15 = .ok (.iadd, 1) := by decide +kernel
theorem dX3_allBytes_16 : decode cX3_allBytes 16 = .ok (.istore_n 1, 1) := by decide +kernel
theorem dX3_allBytes_17 : decode cX3_allBytes 17 = .ok (.iinc 2 1, 3) := by decide +kernel
theorem dX3_allBytes_20 : decode cX3_allBytes 20 = .ok (.goto (-16), 3) := by decide +kernel
theorem dX3_allBytes_23 : decode cX3_allBytes 23 = .ok (.iload_n 1, 1) := by decide +kernel
theorem dX3_allBytes_24 : decode cX3_allBytes 24 = .ok (.ireturn, 1) := by decide +kernel
theorem dX3_layerAt_0 : decode cX3_layerAt 0 = .ok (.iload_n 1, 1) := by decide +kernel
theorem dX3_layerAt_1 : decode cX3_layerAt 1 = .ok (.ifCond .lt 21, 3) := by decide +kernel
theorem dX3_layerAt_4 : decode cX3_layerAt 4 = .ok (.iload_n 1, 1) := by decide +kernel
theorem dX3_layerAt_5 : decode cX3_layerAt 5 = .ok (.aload_n 0, 1) := by decide +kernel
theorem dX3_layerAt_6 : decode cX3_layerAt 6 = .ok (.getfield 11, 3) := by decide +kernel
theorem dX3_layerAt_9 : decode cX3_layerAt 9 = .ok (.arraylength, 1) := by decide +kernel
theorem dX3_layerAt_10 : decode cX3_layerAt 10 = .ok (.if_icmp .ge 12, 3) := by decide +kernel
theorem dX3_layerAt_13 : decode cX3_layerAt 13 = .ok (.aload_n 0, 1) := by decide +kernel
theorem dX3_layerAt_14 : decode cX3_layerAt 14 = .ok (.getfield 11, 3) := by decide +kernel
theorem dX3_layerAt_17 : decode cX3_layerAt 17 = .ok (.iload_n 1, 1) := by decide +kernel
theorem dX3_layerAt_18 : decode cX3_layerAt 18 = .ok (.aaload, 1) := by decide +kernel
theorem dX3_layerAt_19 : decode cX3_layerAt 19 = .ok (.goto 4, 3) := by decide +kernel
theorem dX3_layerAt_22 : decode cX3_layerAt 22 = .ok (.aconst_null, 1) := by decide +kernel
theorem dX3_layerAt_23 : decode cX3_layerAt 23 = .ok (.areturn, 1) := by decide +kernel
theorem dX3_checkedLayer_0 : decode cX3_checkedLayer 0 = .ok (.aload_n 0, 1) := by decide +kernel
theorem dX3_checkedLayer_1 : decode cX3_checkedLayer 1 = .ok (.iload_n 1, 1) := by decide +kernel
theorem dX3_checkedLayer_2 : decode cX3_checkedLayer 2 = .ok (.invokevirtual 61, 3) := by decide +kernel
theorem dX3_checkedLayer_5 : decode cX3_checkedLayer 5 = .ok (.astore_n 2, 1) := by decide +kernel
theorem dX3_checkedLayer_6 : decode cX3_checkedLayer 6 = .ok (.aload_n 2, 1) := by decide +kernel
theorem dX3_checkedLayer_7 : decode cX3_checkedLayer 7 = .ok (.ifnonnull 13, 3) := by decide +kernel
theorem dX3_checkedLayer_10 : decode cX3_checkedLayer 10 = .ok (.new 65, 3) := by decide +kernel
theorem dX3_checkedLayer_13 : decode cX3_checkedLayer 13 = .ok (.dup, 1) := by decide +kernel
theorem dX3_checkedLayer_14 : decode cX3_checkedLayer 14 = .ok (.ldc 67, 2) := by decide +kernel
theorem dX3_checkedLayer_16 : decode cX3_checkedLayer 16 = .ok (.invokespecial 69, 3) := by decide +kernel
theorem dX3_checkedLayer_19 : decode cX3_checkedLayer 19 = .ok (.athrow, 1) := by decide +kernel
theorem dX3_checkedLayer_20 : decode cX3_checkedLayer 20 = .ok (.aload_n 2, 1) := by decide +kernel
theorem dX3_checkedLayer_21 : decode cX3_checkedLayer 21 = .ok (.areturn, 1) := by decide +kernel
theorem dX3_mountThere_0 : decode cX3_mountThere 0 = .ok (.iload_n 1, 1) := by decide +kernel
theorem dX3_mountThere_1 : decode cX3_mountThere 1 = .ok (.ifCond .lt 12, 3) := by decide +kernel
theorem dX3_mountThere_4 : decode cX3_mountThere 4 = .ok (.iload_n 1, 1) := by decide +kernel
theorem dX3_mountThere_5 : decode cX3_mountThere 5 = .ok (.aload_n 0, 1) := by decide +kernel
theorem dX3_mountThere_6 : decode cX3_mountThere 6 = .ok (.getfield 17, 3) := by decide +kernel
theorem dX3_mountThere_9 : decode cX3_mountThere 9 = .ok (.arraylength, 1) := by decide +kernel
theorem dX3_mountThere_10 : decode cX3_mountThere 10 = .ok (.if_icmp .lt 5, 3) := by decide +kernel
theorem dX3_mountThere_13 : decode cX3_mountThere 13 = .ok (.aconst_null, 1) := by decide +kernel
theorem dX3_mountThere_14 : decode cX3_mountThere 14 = .ok (.areturn, 1) := by decide +kernel
theorem dX3_mountThere_15 : decode cX3_mountThere 15 = .ok (.aload_n 0, 1) := by decide +kernel
theorem dX3_mountThere_16 : decode cX3_mountThere 16 = .ok (.getfield 17, 3) := by decide +kernel
theorem dX3_mountThere_19 : decode cX3_mountThere 19 = .ok (.iload_n 1, 1) := by decide +kernel
theorem dX3_mountThere_20 : decode cX3_mountThere 20 = .ok (.aaload, 1) := by decide +kernel
theorem dX3_mountThere_21 : decode cX3_mountThere 21 = .ok (.astore_n 2, 1) := by decide +kernel
theorem dX3_mountThere_22 : decode cX3_mountThere 22 = .ok (.aload_n 2, 1) := by decide +kernel
theorem dX3_mountThere_23 : decode cX3_mountThere 23 = .ok (.ifnull 14, 3) := by decide +kernel
theorem dX3_mountThere_26 : decode cX3_mountThere 26 = .ok (.aload_n 2, 1) := by decide +kernel
theorem dX3_mountThere_27 : decode cX3_mountThere 27 = .ok (.getfield 97, 3) := by decide +kernel
theorem dX3_mountThere_30 : decode cX3_mountThere 30 = .ok (.ifCond .eq 7, 3) := by decide +kernel
theorem dX3_mountThere_33 : decode cX3_mountThere 33 = .ok (.aload_n 2, 1) := by decide +kernel
end
section
theorem dX3_mountThere_34 : decode cX3_mountThere 34 = .ok (.goto 4, 3) := by decide +kernel
theorem dX3_mountThere_37 : decode cX3_mountThere 37 = .ok (.aconst_null, 1) := by decide +kernel
theorem dX3_mountThere_38 : decode cX3_mountThere 38 = .ok (.areturn, 1) := by decide +kernel
theorem dX3_checkedMount_0 : decode cX3_checkedMount 0 = .ok (.aload_n 0, 1) := by decide +kernel
theorem dX3_checkedMount_1 : decode cX3_checkedMount 1 = .ok (.iload_n 1, 1) := by decide +kernel
theorem dX3_checkedMount_2 : decode cX3_checkedMount 2 = .ok (.invokevirtual 101, 3) := by decide +kernel
theorem dX3_checkedMount_5 : decode cX3_checkedMount 5 = .ok (.astore_n 2, 1) := by decide +kernel
theorem dX3_checkedMount_6 : decode cX3_checkedMount 6 = .ok (.aload_n 2, 1) := by decide +kernel
theorem dX3_checkedMount_7 : decode cX3_checkedMount 7 = .ok (.ifnonnull 14, 3) := by decide +kernel
theorem dX3_checkedMount_10 : decode cX3_checkedMount 10 = .ok (.new 65, 3) := by decide +kernel
theorem dX3_checkedMount_13 : decode cX3_checkedMount 13 = .ok (.dup, 1) := by decide +kernel
theorem dX3_checkedMount_14 : decode cX3_checkedMount 14 = .ok (.ldc_w 264, 3) := by decide +kernel
theorem dX3_checkedMount_17 : decode cX3_checkedMount 17 = .ok (.invokespecial 69, 3) := by decide +kernel
theorem dX3_checkedMount_20 : decode cX3_checkedMount 20 = .ok (.athrow, 1) := by decide +kernel
theorem dX3_checkedMount_21 : decode cX3_checkedMount 21 = .ok (.aload_n 2, 1) := by decide +kernel
theorem dX3_checkedMount_22 : decode cX3_checkedMount 22 = .ok (.areturn, 1) := by decide +kernel
theorem dX3_checkedBackup_0 : decode cX3_checkedBackup 0 = .ok (.iload_n 1, 1) := by decide +kernel
theorem dX3_checkedBackup_1 : decode cX3_checkedBackup 1 = .ok (.ifCond .lt 21, 3) := by decide +kernel
theorem dX3_checkedBackup_4 : decode cX3_checkedBackup 4 = .ok (.iload_n 1, 1) := by decide +kernel
theorem dX3_checkedBackup_5 : decode cX3_checkedBackup 5 = .ok (.aload_n 0, 1) := by decide +kernel
theorem dX3_checkedBackup_6 : decode cX3_checkedBackup 6 = .ok (.getfield 23, 3) := by decide +kernel
theorem dX3_checkedBackup_9 : decode cX3_checkedBackup 9 = .ok (.arraylength, 1) := by decide +kernel
theorem dX3_checkedBackup_10 : decode cX3_checkedBackup 10 = .ok (.if_icmp .ge 12, 3) := by decide +kernel
theorem dX3_checkedBackup_13 : decode cX3_checkedBackup 13 = .ok (.aload_n 0, 1) := by decide +kernel
theorem dX3_checkedBackup_14 : decode cX3_checkedBackup 14 = .ok (.getfield 23, 3) := by decide +kernel
theorem dX3_checkedBackup_17 : decode cX3_checkedBackup 17 = .ok (.iload_n 1, 1) := by decide +kernel
theorem dX3_checkedBackup_18 : decode cX3_checkedBackup 18 = .ok (.aaload, 1) := by decide +kernel
theorem dX3_checkedBackup_19 : decode cX3_checkedBackup 19 = .ok (.goto 4, 3) := by decide +kernel
theorem dX3_checkedBackup_22 : decode cX3_checkedBackup 22 = .ok (.aconst_null, 1) := by decide +kernel
theorem dX3_checkedBackup_23 : decode cX3_checkedBackup 23 = .ok (.astore_n 2, 1) := by decide +kernel
theorem dX3_checkedBackup_24 : decode cX3_checkedBackup 24 = .ok (.aload_n 2, 1) := by decide +kernel
theorem dX3_checkedBackup_25 : decode cX3_checkedBackup 25 = .ok (.ifnonnull 14, 3) := by decide +kernel
theorem dX3_checkedBackup_28 : decode cX3_checkedBackup 28 = .ok (.new 65, 3) := by decide +kernel
theorem dX3_checkedBackup_31 : decode cX3_checkedBackup 31 = .ok (.dup, 1) := by decide +kernel
theorem dX3_checkedBackup_32 : decode cX3_checkedBackup 32 = .ok (.ldc_w 266, 3) := by decide +kernel
theorem dX3_checkedBackup_35 : decode cX3_checkedBackup 35 = .ok (.invokespecial 69, 3) := by decide +kernel
theorem dX3_checkedBackup_38 : decode cX3_checkedBackup 38 = .ok (.athrow, 1) := by decide +kernel
theorem dX3_checkedBackup_39 : decode cX3_checkedBackup 39 = .ok (.aload_n 2, 1) := by decide +kernel
theorem dX3_checkedBackup_40 : decode cX3_checkedBackup 40 = .ok (.areturn, 1) := by decide +kernel
theorem dX3_isUpperOfSome_0 : decode cX3_isUpperOfSome 0 = .ok (.iconst 0, 1) := by decide +kernel
theorem dX3_isUpperOfSome_1 : decode cX3_isUpperOfSome 1 = .ok (.istore_n 2, 1) := by decide +kernel
theorem dX3_isUpperOfSome_2 : decode cX3_isUpperOfSome 2 = .ok (.iload_n 2, 1) := by decide +kernel
theorem dX3_isUpperOfSome_3 : decode cX3_isUpperOfSome 3 = .ok (.aload_n 0, 1) := by decide +kernel
theorem dX3_isUpperOfSome_4 : decode cX3_isUpperOfSome 4 = .ok (.getfield 82, 3) := by decide +kernel
theorem dX3_isUpperOfSome_7 : decode cX3_isUpperOfSome 7 = .ok (.if_icmp .ge 29, 3) := by decide +kernel
theorem dX3_isUpperOfSome_10 : decode cX3_isUpperOfSome 10 = .ok (.aload_n 0, 1) := by decide +kernel
theorem dX3_isUpperOfSome_11 : decode cX3_isUpperOfSome 11 = .ok (.iload_n 2, 1) := by decide +kernel
theorem dX3_isUpperOfSome_12 : decode cX3_isUpperOfSome 12 = .ok (.invokevirtual 101, 3) := by decide +kernel
theorem dX3_isUpperOfSome_15 : decode cX3_isUpperOfSome 15 = .ok (.astore_n 3, 1) := by decide +kernel
theorem dX3_isUpperOfSome_16 : decode cX3_isUpperOfSome 16 = .ok (.aload_n 3, 1) := by decide +kernel
theorem dX3_isUpperOfSome_17 : decode cX3_isUpperOfSome 17 = .ok (.ifnull 13, 3) := by decide +kernel
theorem dX3_isUpperOfSome_20 : decode cX3_isUpperOfSome 20 = .ok (.aload_n 3, 1) := by decide +kernel
theorem dX3_isUpperOfSome_21 : decode cX3_isUpperOfSome 21 = .ok (.getfield 158, 3) := by decide +kernel
theorem dX3_isUpperOfSome_24 : decode cX3_isUpperOfSome 24 = .ok (.iload_n 1, 1) := by decide +kernel
theorem dX3_isUpperOfSome_25 : decode cX3_isUpperOfSome 25 = .ok (.if_icmp .ne 5, 3) := by decide +kernel
theorem dX3_isUpperOfSome_28 : decode cX3_isUpperOfSome 28 = .ok (.iconst 1, 1) := by decide +kernel
theorem dX3_isUpperOfSome_29 : decode cX3_isUpperOfSome 29 = .ok (.ireturn, 1) := by decide +kernel
theorem dX3_isUpperOfSome_30 : decode cX3_isUpperOfSome 30 = .ok (.iinc 2 1, 3) := by decide +kernel
theorem dX3_isUpperOfSome_33 : decode cX3_isUpperOfSome 33 = .ok (.goto (-31), 3) := by decide +kernel
theorem dX3_isUpperOfSome_36 : decode cX3_isUpperOfSome 36 = .ok (.iconst 0, 1) := by decide +kernel
theorem dX3_isUpperOfSome_37 : decode cX3_isUpperOfSome 37 = .ok (.ireturn, 1) := by decide +kernel
theorem dX3_isInSome_0 : decode cX3_isInSome 0 = .ok (.iconst 0, 1) := by decide +kernel
theorem dX3_isInSome_1 : decode cX3_isInSome 1 = .ok (.istore_n 2, 1) := by decide +kernel
theorem dX3_isInSome_2 : decode cX3_isInSome 2 = .ok (.iload_n 2, 1) := by decide +kernel
theorem dX3_isInSome_3 : decode cX3_isInSome 3 = .ok (.aload_n 0, 1) := by decide +kernel
theorem dX3_isInSome_4 : decode cX3_isInSome 4 = .ok (.getfield 82, 3) := by decide +kernel
theorem dX3_isInSome_7 : decode cX3_isInSome 7 = .ok (.if_icmp .ge 37, 3) := by decide +kernel
theorem dX3_isInSome_10 : decode cX3_isInSome 10 = .ok (.aload_n 0, 1) := by decide +kernel
theorem dX3_isInSome_11 : decode cX3_isInSome 11 = .ok (.iload_n 2, 1) := by decide +kernel
theorem dX3_isInSome_12 : decode cX3_isInSome 12 = .ok (.invokevirtual 101, 3) := by decide +kernel
theorem dX3_isInSome_15 : decode cX3_isInSome 15 = .ok (.astore_n 3, 1) := by decide +kernel
theorem dX3_isInSome_16 : decode cX3_isInSome 16 = .ok (.aload_n 3, 1) := by decide +kernel
theorem dX3_isInSome_17 : decode cX3_isInSome 17 = .ok (.ifnull 21, 3) := by decide +kernel
theorem dX3_isInSome_20 : decode cX3_isInSome 20 = .ok (.aload_n 3, 1) := by decide +kernel
theorem dX3_isInSome_21 : decode cX3_isInSome 21 = .ok (.getfield 158, 3) := by decide +kernel
theorem dX3_isInSome_24 : decode cX3_isInSome 24 = .ok (.iload_n 1, 1) := by decide +kernel
theorem dX3_isInSome_25 : decode cX3_isInSome 25 = .ok (.if_icmp .eq 11, 3) := by decide +kernel
theorem dX3_isInSome_28 : decode cX3_isInSome 28 = .ok (.aload_n 3, 1) := by decide +kernel
theorem dX3_isInSome_29 : decode cX3_isInSome 29 = .ok (.getfield 161, 3) := by decide +kernel
theorem dX3_isInSome_32 : decode cX3_isInSome 32 = .ok (.iload_n 1, 1) := by decide +kernel
theorem dX3_isInSome_33 : decode cX3_isInSome 33 = .ok (.if_icmp .ne 5, 3) := by decide +kernel
theorem dX3_isInSome_36 : decode cX3_isInSome 36 = .ok (.iconst 1, 1) := by decide +kernel
theorem dX3_isInSome_37 : decode cX3_isInSome 37 = .ok (.ireturn, 1) := by decide +kernel
theorem dX3_isInSome_38 : decode cX3_isInSome 38 = .ok (.iinc 2 1, 3) := by decide +kernel
theorem dX3_isInSome_41 : decode cX3_isInSome 41 = .ok (.goto (-39), 3) := by decide +kernel
theorem dX3_isInSome_44 : decode cX3_isInSome 44 = .ok (.iconst 0, 1) := by decide +kernel
theorem dX3_isInSome_45 : decode cX3_isInSome 45 = .ok (.ireturn, 1) := by decide +kernel
theorem dX3_serveAgain_0 : decode cX3_serveAgain 0 = .ok (.iconst 0, 1) := by decide +kernel
theorem dX3_serveAgain_1 : decode cX3_serveAgain 1 = .ok (.istore_n 1, 1) := by decide +kernel
theorem dX3_serveAgain_2 : decode cX3_serveAgain 2 = .ok (.iload_n 1, 1) := by decide +kernel
theorem dX3_serveAgain_3 : decode cX3_serveAgain 3 = .ok (.sipush 341, 3) := by decide +kernel
theorem dX3_serveAgain_6 : decode cX3_serveAgain 6 = .ok (.if_icmp .ge 23, 3) := by decide +kernel
theorem dX3_serveAgain_9 : decode cX3_serveAgain 9 = .ok (.aload_n 0, 1) := by decide +kernel
theorem dX3_serveAgain_10 : decode cX3_serveAgain 10 = .ok (.getfield 34, 3) := by decide +kernel
theorem dX3_serveAgain_13 : decode cX3_serveAgain 13 = .ok (.iload_n 1, 1) := by decide +kernel
theorem dX3_serveAgain_14 : decode cX3_serveAgain 14 = .ok (.iconst (-1), 1) := by decide +kernel
theorem dX3_serveAgain_15 : decode cX3_serveAgain 15 = .ok (.iastore, 1) := by decide +kernel
theorem dX3_serveAgain_16 : decode cX3_serveAgain 16 = .ok (.aload_n 0, 1) := by decide +kernel
theorem dX3_serveAgain_17 : decode cX3_serveAgain 17 = .ok (.getfield 37, 3) := by decide +kernel
theorem dX3_serveAgain_20 : decode cX3_serveAgain 20 = .ok (.iload_n 1, 1) := by decide +kernel
theorem dX3_serveAgain_21 : decode cX3_serveAgain 21 = .ok (.iconst 0, 1) := by decide +kernel
theorem dX3_serveAgain_22 : decode cX3_serveAgain 22 = .ok (.iastore, 1) := by decide +kernel
theorem dX3_serveAgain_23 : decode cX3_serveAgain 23 = .ok (.iinc 1 1, 3) := by decide +kernel
theorem dX3_serveAgain_26 : decode cX3_serveAgain 26 = .ok (.goto (-24), 3) := by decide +kernel
theorem dX3_serveAgain_29 : decode cX3_serveAgain 29 = .ok (.iconst 0, 1) := by decide +kernel
theorem dX3_serveAgain_30 : decode cX3_serveAgain 30 = .ok (.istore_n 1, 1) := by decide +kernel
theorem dX3_serveAgain_31 : decode cX3_serveAgain 31 = .ok (.iload_n 1, 1) := by decide +kernel
theorem dX3_serveAgain_32 : decode cX3_serveAgain 32 = .ok (.aload_n 0, 1) := by decide +kernel
theorem dX3_serveAgain_33 : decode cX3_serveAgain 33 = .ok (.getfield 82, 3) := by decide +kernel
theorem dX3_serveAgain_36 : decode cX3_serveAgain 36 = .ok (.if_icmp .ge 31, 3) := by decide +kernel
theorem dX3_serveAgain_39 : decode cX3_serveAgain 39 = .ok (.aload_n 0, 1) := by decide +kernel
theorem dX3_serveAgain_40 : decode cX3_serveAgain 40 = .ok (.iload_n 1, 1) := by decide +kernel
theorem dX3_serveAgain_41 : decode cX3_serveAgain 41 = .ok (.invokevirtual 101, 3) := by decide +kernel
theorem dX3_serveAgain_44 : decode cX3_serveAgain 44 = .ok (.astore_n 2, 1) := by decide +kernel
theorem dX3_serveAgain_45 : decode cX3_serveAgain 45 = .ok (.aload_n 2, 1) := by decide +kernel
theorem dX3_serveAgain_46 : decode cX3_serveAgain 46 = .ok (.ifnull 15, 3) := by decide +kernel
theorem dX3_serveAgain_49 : decode cX3_serveAgain 49 = .ok (.aload_n 0, 1) := by decide +kernel
theorem dX3_serveAgain_50 : decode cX3_serveAgain 50 = .ok (.aload_n 2, 1) := by decide +kernel
theorem dX3_serveAgain_51 : decode cX3_serveAgain 51 = .ok (.getfield 107, 3) := by decide +kernel
theorem dX3_serveAgain_54 : decode cX3_serveAgain 54 = .ok (.invokestatic 52, 3) := by decide +kernel
theorem dX3_serveAgain_57 : decode cX3_serveAgain 57 = .ok (.iload_n 1, 1) := by decide +kernel
theorem dX3_serveAgain_58 : decode cX3_serveAgain 58 = .ok (.invokevirtual 268, 3) := by decide +kernel
theorem dX3_serveAgain_61 : decode cX3_serveAgain 61 = .ok (.iinc 1 1, 3) := by decide +kernel
theorem dX3_serveAgain_64 : decode cX3_serveAgain 64 = .ok (.goto (-33), 3) := by decide +kernel
theorem dX3_serveAgain_67 : decode cX3_serveAgain 67 = .ok (.return_, 1) := by decide +kernel
theorem dX3_serveBehind_0 : decode cX3_serveBehind 0 = .ok (.iconst 0, 1) := by decide +kernel
theorem dX3_serveBehind_1 : decode cX3_serveBehind 1 = .ok (.istore_n 3, 1) := by decide +kernel
theorem dX3_serveBehind_2 : decode cX3_serveBehind 2 = .ok (.iconst 1, 1) := by decide +kernel
theorem dX3_serveBehind_3 : decode cX3_serveBehind 3 = .ok (.istore 4, 2) := by decide +kernel
theorem dX3_serveBehind_5 : decode cX3_serveBehind 5 = .ok (.iconst 0, 1) := by decide +kernel
theorem dX3_serveBehind_6 : decode cX3_serveBehind 6 = .ok (.istore 5, 2) := by decide +kernel
theorem dX3_serveBehind_8 : decode cX3_serveBehind 8 = .ok (.iload 5, 2) := by decide +kernel
theorem dX3_serveBehind_10 : decode cX3_serveBehind 10 = .ok (.iconst 4, 1) := by decide +kernel
theorem dX3_serveBehind_11 : decode cX3_serveBehind 11 = .ok (.if_icmp .gt 76, 3) := by decide +kernel
theorem dX3_serveBehind_14 : decode cX3_serveBehind 14 = .ok (.iload_n 1, 1) := by decide +kernel
theorem dX3_serveBehind_15 : decode cX3_serveBehind 15 = .ok (.iload 4, 2) := by decide +kernel
theorem dX3_serveBehind_17 : decode cX3_serveBehind 17 = .ok (.imul, 1) := by decide +kernel
theorem dX3_serveBehind_18 : decode cX3_serveBehind 18 = .ok (.istore 6, 2) := by decide +kernel
theorem dX3_serveBehind_20 : decode cX3_serveBehind 20 = .ok (.iload_n 3, 1) := by decide +kernel
theorem dX3_serveBehind_21 : decode cX3_serveBehind 21 = .ok (.istore 7, 2) := by decide +kernel
theorem dX3_serveBehind_23 : decode cX3_serveBehind 23 = .ok (.iload 7, 2) := by decide +kernel
theorem dX3_serveBehind_25 : decode cX3_serveBehind 25 = .ok (.iload_n 3, 1) := by decide +kernel
theorem dX3_serveBehind_26 : decode cX3_serveBehind 26 = .ok (.iload 4, 2) := by decide +kernel
theorem dX3_serveBehind_28 : decode cX3_serveBehind 28 = .ok (.iadd, 1) := by decide +kernel
theorem dX3_serveBehind_29 : decode cX3_serveBehind 29 = .ok (.if_icmp .ge 41, 3) := by decide +kernel
theorem dX3_serveBehind_32 : decode cX3_serveBehind 32 = .ok (.iload 6, 2) := by decide +kernel
theorem dX3_serveBehind_34 : decode cX3_serveBehind 34 = .ok (.iload 7, 2) := by decide +kernel
theorem dX3_serveBehind_36 : decode cX3_serveBehind 36 = .ok (.iadd, 1) := by decide +kernel
theorem dX3_serveBehind_37 : decode cX3_serveBehind 37 = .ok (.istore 8, 2) := by decide +kernel
theorem dX3_serveBehind_39 : decode cX3_serveBehind 39 = .ok (.iload 8, 2) := by decide +kernel
theorem dX3_serveBehind_41 : decode cX3_serveBehind 41 = .ok (.invokestatic 272, 3) := by decide +kernel
theorem dX3_serveBehind_44 : decode cX3_serveBehind 44 = .ok (.ifCond .eq 20, 3) := by decide +kernel
theorem dX3_serveBehind_47 : decode cX3_serveBehind 47 = .ok (.aload_n 0, 1) := by decide +kernel
theorem dX3_serveBehind_48 : decode cX3_serveBehind 48 = .ok (.getfield 34, 3) := by decide +kernel
theorem dX3_serveBehind_51 : decode cX3_serveBehind 51 = .ok (.iload 8, 2) := by decide +kernel
theorem dX3_serveBehind_53 : decode cX3_serveBehind 53 = .ok (.iload_n 2, 1) := by decide +kernel
theorem dX3_serveBehind_54 : decode cX3_serveBehind 54 = .ok (.iastore, 1) := by decide +kernel
theorem dX3_serveBehind_55 : decode cX3_serveBehind 55 = .ok (.aload_n 0, 1) := by decide +kernel
theorem dX3_serveBehind_56 : decode cX3_serveBehind 56 = .ok (.getfield 37, 3) := by decide +kernel
theorem dX3_serveBehind_59 : decode cX3_serveBehind 59 = .ok (.iload 8, 2) := by decide +kernel
theorem dX3_serveBehind_61 : decode cX3_serveBehind 61 = .ok (.iload 7, 2) := by decide +kernel
theorem dX3_serveBehind_63 : decode cX3_serveBehind 63 = .ok (.iastore, 1) := by decide +kernel
theorem dX3_serveBehind_64 : decode cX3_serveBehind 64 = .ok (.iinc 7 1, 3) := by decide +kernel
theorem dX3_serveBehind_67 : decode cX3_serveBehind 67 = .ok (.goto (-44), 3) := by decide +kernel
theorem dX3_serveBehind_70 : decode cX3_serveBehind 70 = .ok (.iload_n 3, 1) := by decide +kernel
theorem dX3_serveBehind_71 : decode cX3_serveBehind 71 = .ok (.iload 4, 2) := by decide +kernel
theorem dX3_serveBehind_73 : decode cX3_serveBehind 73 = .ok (.iadd, 1) := by decide +kernel
theorem dX3_serveBehind_74 : decode cX3_serveBehind 74 = .ok (.istore_n 3, 1) := by decide +kernel
theorem dX3_serveBehind_75 : decode cX3_serveBehind 75 = .ok (.iload 4, 2) := by decide +kernel
theorem dX3_serveBehind_77 : decode cX3_serveBehind 77 = .ok (.iconst 4, 1) := by decide +kernel
theorem dX3_serveBehind_78 : decode cX3_serveBehind 78 = .ok (.imul, 1) := by decide +kernel
theorem dX3_serveBehind_79 : decode cX3_serveBehind 79 = .ok (.istore 4, 2) := by decide +kernel
theorem dX3_serveBehind_81 : decode cX3_serveBehind 81 = .ok (.iinc 5 1, 3) := by decide +kernel
theorem dX3_serveBehind_84 : decode cX3_serveBehind 84 = .ok (.goto (-76), 3) := by decide +kernel
theorem dX3_serveBehind_87 : decode cX3_serveBehind 87 = .ok (.return_, 1) := by decide +kernel
theorem dX3_serverAt_0 : decode cX3_serverAt 0 = .ok (.iload_n 1, 1) := by decide +kernel
theorem dX3_serverAt_1 : decode cX3_serverAt 1 = .ok (.invokestatic 272, 3) := by decide +kernel
theorem dX3_serverAt_4 : decode cX3_serverAt 4 = .ok (.ifCond .eq 12, 3) := by decide +kernel
theorem dX3_serverAt_7 : decode cX3_serverAt 7 = .ok (.aload_n 0, 1) := by decide +kernel
theorem dX3_serverAt_8 : decode cX3_serverAt 8 = .ok (.getfield 34, 3) := by decide +kernel
theorem dX3_serverAt_11 : decode cX3_serverAt 11 = .ok (.iload_n 1, 1) := by decide +kernel
theorem dX3_serverAt_12 : decode cX3_serverAt 12 = .ok (.iaload, 1) := by decide +kernel
theorem dX3_serverAt_13 : decode cX3_serverAt 13 = .ok (.goto 4, 3) := by decide +kernel
theorem dX3_serverAt_16 : decode cX3_serverAt 16 = .ok (.iconst (-1), 1) := by decide +kernel
theorem dX3_serverAt_17 : decode cX3_serverAt 17 = .ok (.ireturn, 1) := by decide +kernel
theorem dX3_restAt_0 : decode cX3_restAt 0 = .ok (.iload_n 1, 1) := by decide +kernel
theorem dX3_restAt_1 : decode cX3_restAt 1 = .ok (.invokestatic 272, 3) := by decide +kernel
theorem dX3_restAt_4 : decode cX3_restAt 4 = .ok (.ifCond .eq 12, 3) := by decide +kernel
theorem dX3_restAt_7 : decode cX3_restAt 7 = .ok (.aload_n 0, 1) := by decide +kernel
theorem dX3_restAt_8 : decode cX3_restAt 8 = .ok (.getfield 37, 3) := by decide +kernel
theorem dX3_restAt_11 : decode cX3_restAt 11 = .ok (.iload_n 1, 1) := by decide +kernel
theorem dX3_restAt_12 : decode cX3_restAt 12 = .ok (.iaload, 1) := by decide +kernel
theorem dX3_restAt_13 : decode cX3_restAt 13 = .ok (.goto 4, 3) := by decide +kernel
theorem dX3_restAt_16 : decode cX3_restAt 16 = .ok (.iconst 0, 1) := by decide +kernel
theorem dX3_restAt_17 : decode cX3_restAt 17 = .ok (.ireturn, 1) := by decide +kernel
theorem dX3_isThing_0 : decode cX3_isThing 0 = .ok (.iload_n 0, 1) := by decide +kernel
theorem dX3_isThing_1 : decode cX3_isThing 1 = .ok (.iconst 1, 1) := by decide +kernel
theorem dX3_isThing_2 : decode cX3_isThing 2 = .ok (.if_icmp .eq 8, 3) := by decide +kernel
theorem dX3_isThing_5 : decode cX3_isThing 5 = .ok (.iload_n 0, 1) := by decide +kernel
theorem dX3_isThing_6 : decode cX3_isThing 6 = .ok (.iconst 2, 1) := by decide +kernel
theorem dX3_isThing_7 : decode cX3_isThing 7 = .ok (.if_icmp .ne 7, 3) := by decide +kernel
theorem dX3_isThing_10 : decode cX3_isThing 10 = .ok (.iconst 1, 1) := by decide +kernel
theorem dX3_isThing_11 : decode cX3_isThing 11 = .ok (.goto 4, 3) := by decide +kernel
theorem dX3_isThing_14 : decode cX3_isThing 14 = .ok (.iconst 0, 1) := by decide +kernel
theorem dX3_isThing_15 : decode cX3_isThing 15 = .ok (.ireturn, 1) := by decide +kernel
theorem dX3_kindIn_0 : decode cX3_kindIn 0 = .ok (.aload_n 0, 1) := by decide +kernel
theorem dX3_kindIn_1 : decode cX3_kindIn 1 = .ok (.iload_n 1, 1) := by decide +kernel
theorem dX3_kindIn_2 : decode cX3_kindIn 2 = .ok (.invokevirtual 61, 3) := by decide +kernel
theorem dX3_kindIn_5 : decode cX3_kindIn 5 = .ok (.astore_n 3, 1) := by decide +kernel
theorem dX3_kindIn_6 : decode cX3_kindIn 6 = .ok (.aload_n 3, 1) := by decide +kernel
theorem dX3_kindIn_7 : decode cX3_kindIn 7 = .ok (.ifnonnull 7, 3) := by decide +kernel
theorem dX3_kindIn_10 : decode cX3_kindIn 10 = .ok (.iconst 0, 1) := by decide +kernel
theorem dX3_kindIn_11 : decode cX3_kindIn 11 = .ok (.goto 8, 3) := by decide +kernel
theorem dX3_kindIn_14 : decode cX3_kindIn 14 = .ok (.aload_n 3, 1) := by decide +kernel
theorem dX3_kindIn_15 : decode cX3_kindIn 15 = .ok (.iload_n 2, 1) := by decide +kernel
theorem dX3_kindIn_16 : decode cX3_kindIn 16 = .ok (.invokevirtual 275, 3) := by decide +kernel
theorem dX3_kindIn_19 : decode cX3_kindIn 19 = .ok (.ireturn, 1) := by decide +kernel
theorem dX3_fileSizeIn_0 : decode cX3_fileSizeIn 0 = .ok (.aload_n 0, 1) := by decide +kernel
theorem dX3_fileSizeIn_1 : decode cX3_fileSizeIn 1 = .ok (.iload_n 1, 1) := by decide +kernel
theorem dX3_fileSizeIn_2 : decode cX3_fileSizeIn 2 = .ok (.invokevirtual 61, 3) := by decide +kernel
theorem dX3_fileSizeIn_5 : decode cX3_fileSizeIn 5 = .ok (.astore_n 3, 1) := by decide +kernel
theorem dX3_fileSizeIn_6 : decode cX3_fileSizeIn 6 = .ok (.aload_n 3, 1) := by decide +kernel
theorem dX3_fileSizeIn_7 : decode cX3_fileSizeIn 7 = .ok (.ifnonnull 7, 3) := by decide +kernel
theorem dX3_fileSizeIn_10 : decode cX3_fileSizeIn 10 = .ok (.iconst (-1), 1) := by decide +kernel
theorem dX3_fileSizeIn_11 : decode cX3_fileSizeIn 11 = .ok (.goto 8, 3) := by decide +kernel
theorem dX3_fileSizeIn_14 : decode cX3_fileSizeIn 14 = .ok (.aload_n 3, 1) := by decide +kernel
theorem dX3_fileSizeIn_15 : decode cX3_fileSizeIn 15 = .ok (.iload_n 2, 1) := by decide +kernel
theorem dX3_fileSizeIn_16 : decode cX3_fileSizeIn 16 = .ok (.invokevirtual 278, 3) := by decide +kernel
theorem dX3_fileSizeIn_19 : decode cX3_fileSizeIn 19 = .ok (.ireturn, 1) := by decide +kernel
theorem dX3_layerShownBy_0 : decode cX3_layerShownBy 0 = .ok (.aload_n 1, 1) := by decide +kernel
theorem dX3_layerShownBy_1 : decode cX3_layerShownBy 1 = .ok (.ifnonnull 5, 3) := by decide +kernel
theorem dX3_layerShownBy_4 : decode cX3_layerShownBy 4 = .ok (.iconst (-1), 1) := by decide +kernel
theorem dX3_layerShownBy_5 : decode cX3_layerShownBy 5 = .ok (.ireturn, 1) := by decide +kernel
theorem dX3_layerShownBy_6 : decode cX3_layerShownBy 6 = .ok (.aload_n 0, 1) := by decide +kernel
theorem dX3_layerShownBy_7 : decode cX3_layerShownBy 7 = .ok (.aload_n 1, 1) := by decide +kernel
theorem dX3_layerShownBy_8 : decode cX3_layerShownBy 8 = .ok (.getfield 158, 3) := by decide +kernel
theorem dX3_layerShownBy_11 : decode cX3_layerShownBy 11 = .ok (.iload_n 2, 1) := by decide +kernel
theorem dX3_layerShownBy_12 : decode cX3_layerShownBy 12 = .ok (.invokevirtual 164, 3) := by decide +kernel
theorem dX3_layerShownBy_15 : decode cX3_layerShownBy 15 = .ok (.istore_n 3, 1) := by decide +kernel
theorem dX3_layerShownBy_16 : decode cX3_layerShownBy 16 = .ok (.iload_n 3, 1) := by decide +kernel
theorem dX3_layerShownBy_17 : decode cX3_layerShownBy 17 = .ok (.ifCond .eq 19, 3) := by decide +kernel
theorem dX3_layerShownBy_20 : decode cX3_layerShownBy 20 = .ok (.iload_n 3, 1) := by decide +kernel
theorem dX3_layerShownBy_21 : decode cX3_layerShownBy 21 = .ok (.invokestatic 167, 3) := by decide +kernel
theorem dX3_layerShownBy_24 : decode cX3_layerShownBy 24 = .ok (.ifCond .eq 10, 3) := by decide +kernel
theorem dX3_layerShownBy_27 : decode cX3_layerShownBy 27 = .ok (.aload_n 1, 1) := by decide +kernel
theorem dX3_layerShownBy_28 : decode cX3_layerShownBy 28 = .ok (.getfield 158, 3) := by decide +kernel
theorem dX3_layerShownBy_31 : decode cX3_layerShownBy 31 = .ok (.goto 4, 3) := by decide +kernel
theorem dX3_layerShownBy_34 : decode cX3_layerShownBy 34 = .ok (.iconst (-1), 1) := by decide +kernel
theorem dX3_layerShownBy_35 : decode cX3_layerShownBy 35 = .ok (.ireturn, 1) := by decide +kernel
theorem dX3_layerShownBy_36 : decode cX3_layerShownBy 36 = .ok (.aload_n 0, 1) := by decide +kernel
theorem dX3_layerShownBy_37 : decode cX3_layerShownBy 37 = .ok (.aload_n 1, 1) := by decide +kernel
theorem dX3_layerShownBy_38 : decode cX3_layerShownBy 38 = .ok (.getfield 161, 3) := by decide +kernel
theorem dX3_layerShownBy_41 : decode cX3_layerShownBy 41 = .ok (.iload_n 2, 1) := by decide +kernel
theorem dX3_layerShownBy_42 : decode cX3_layerShownBy 42 = .ok (.invokevirtual 164, 3) := by decide +kernel
theorem dX3_layerShownBy_45 : decode cX3_layerShownBy 45 = .ok (.invokestatic 167, 3) := by decide +kernel
theorem dX3_layerShownBy_48 : decode cX3_layerShownBy 48 = .ok (.ifCond .eq 10, 3) := by decide +kernel
theorem dX3_layerShownBy_51 : decode cX3_layerShownBy 51 = .ok (.aload_n 1, 1) := by decide +kernel
theorem dX3_layerShownBy_52 : decode cX3_layerShownBy 52 = .ok (.getfield 161, 3) := by decide +kernel
theorem dX3_layerShownBy_55 : decode cX3_layerShownBy 55 = .ok (.goto 4, 3) := by decide +kernel
theorem dX3_layerShownBy_58 : decode cX3_layerShownBy 58 = .ok (.iconst (-1), 1) := by decide +kernel
theorem dX3_layerShownBy_59 : decode cX3_layerShownBy 59 = .ok (.ireturn, 1) := by decide +kernel
theorem dX3_layerShown_0 : decode cX3_layerShown 0 = .ok (.aload_n 0, 1) := by decide +kernel
theorem dX3_layerShown_1 : decode cX3_layerShown 1 = .ok (.aload_n 0, 1) := by decide +kernel
theorem dX3_layerShown_2 : decode cX3_layerShown 2 = .ok (.aload_n 0, 1) := by decide +kernel
theorem dX3_layerShown_3 : decode cX3_layerShown 3 = .ok (.iload_n 1, 1) := by decide +kernel
theorem dX3_layerShown_4 : decode cX3_layerShown 4 = .ok (.invokevirtual 113, 3) := by decide +kernel
theorem dX3_layerShown_7 : decode cX3_layerShown 7 = .ok (.invokevirtual 101, 3) := by decide +kernel
theorem dX3_layerShown_10 : decode cX3_layerShown 10 = .ok (.aload_n 0, 1) := by decide +kernel
theorem dX3_layerShown_11 : decode cX3_layerShown 11 = .ok (.iload_n 1, 1) := by decide +kernel
theorem dX3_layerShown_12 : decode cX3_layerShown 12 = .ok (.invokevirtual 133, 3) := by decide +kernel
theorem dX3_layerShown_15 : decode cX3_layerShown 15 = .ok (.invokevirtual 194, 3) := by decide +kernel
theorem dX3_layerShown_18 : decode cX3_layerShown 18 = .ok (.ireturn, 1) := by decide +kernel
theorem dX3_checkedShown_0 : decode cX3_checkedShown 0 = .ok (.aload_n 0, 1) := by decide +kernel
theorem dX3_checkedShown_1 : decode cX3_checkedShown 1 = .ok (.aload_n 0, 1) := by decide +kernel
theorem dX3_checkedShown_2 : decode cX3_checkedShown 2 = .ok (.iload_n 1, 1) := by decide +kernel
theorem dX3_checkedShown_3 : decode cX3_checkedShown 3 = .ok (.invokevirtual 178, 3) := by decide +kernel
theorem dX3_checkedShown_6 : decode cX3_checkedShown 6 = .ok (.invokevirtual 61, 3) := by decide +kernel
theorem dX3_checkedShown_9 : decode cX3_checkedShown 9 = .ok (.astore_n 2, 1) := by decide +kernel
theorem dX3_checkedShown_10 : decode cX3_checkedShown 10 = .ok (.aload_n 2, 1) := by decide +kernel
theorem dX3_checkedShown_11 : decode cX3_checkedShown 11 = .ok (.ifnonnull 13, 3) := by decide +kernel
theorem dX3_checkedShown_14 : decode cX3_checkedShown 14 = .ok (.new 116, 3) := by decide +kernel
theorem dX3_checkedShown_17 : decode cX3_checkedShown 17 = .ok (.dup, 1) := by decide +kernel
theorem dX3_checkedShown_18 : decode cX3_checkedShown 18 = .ok (.ldc 181, 2) := by decide +kernel
theorem dX3_checkedShown_20 : decode cX3_checkedShown 20 = .ok (.invokespecial 120, 3) := by decide +kernel
theorem dX3_checkedShown_23 : decode cX3_checkedShown 23 = .ok (.athrow, 1) := by decide +kernel
theorem dX3_checkedShown_24 : decode cX3_checkedShown 24 = .ok (.aload_n 2, 1) := by decide +kernel
theorem dX3_checkedShown_25 : decode cX3_checkedShown 25 = .ok (.areturn, 1) := by decide +kernel
theorem dX3_shownFileSize_0 : decode cX3_shownFileSize 0 = .ok (.aload_n 0, 1) := by decide +kernel
theorem dX3_shownFileSize_1 : decode cX3_shownFileSize 1 = .ok (.aload_n 0, 1) := by decide +kernel
theorem dX3_shownFileSize_2 : decode cX3_shownFileSize 2 = .ok (.iload_n 1, 1) := by decide +kernel
theorem dX3_shownFileSize_3 : decode cX3_shownFileSize 3 = .ok (.invokevirtual 178, 3) := by decide +kernel
theorem dX3_shownFileSize_6 : decode cX3_shownFileSize 6 = .ok (.aload_n 0, 1) := by decide +kernel
theorem dX3_shownFileSize_7 : decode cX3_shownFileSize 7 = .ok (.iload_n 1, 1) := by decide +kernel
theorem dX3_shownFileSize_8 : decode cX3_shownFileSize 8 = .ok (.invokevirtual 133, 3) := by decide +kernel
theorem dX3_shownFileSize_11 : decode cX3_shownFileSize 11 = .ok (.invokevirtual 198, 3) := by decide +kernel
theorem dX3_shownFileSize_14 : decode cX3_shownFileSize 14 = .ok (.ireturn, 1) := by decide +kernel
theorem dX3_shownBytes_0 : decode cX3_shownBytes 0 = .ok (.iconst 0, 1) := by decide +kernel
theorem dX3_shownBytes_1 : decode cX3_shownBytes 1 = .ok (.istore_n 1, 1) := by decide +kernel
theorem dX3_shownBytes_2 : decode cX3_shownBytes 2 = .ok (.iload_n 1, 1) := by decide +kernel
theorem dX3_shownBytes_3 : decode cX3_shownBytes 3 = .ok (.aload_n 0, 1) := by decide +kernel
theorem dX3_shownBytes_4 : decode cX3_shownBytes 4 = .ok (.getfield 40, 3) := by decide +kernel
theorem dX3_shownBytes_7 : decode cX3_shownBytes 7 = .ok (.if_icmp .ge 23, 3) := by decide +kernel
theorem dX3_shownBytes_10 : decode cX3_shownBytes 10 = .ok (.aload_n 0, 1) := by decide +kernel
theorem dX3_shownBytes_11 : decode cX3_shownBytes 11 = .ok (.iload_n 1, 1) := by decide +kernel
theorem dX3_shownBytes_12 : decode cX3_shownBytes 12 = .ok (.invokevirtual 61, 3) := by decide +kernel
theorem dX3_shownBytes_15 : decode cX3_shownBytes 15 = .ok (.astore_n 2, 1) := by decide +kernel
theorem dX3_shownBytes_16 : decode cX3_shownBytes 16 = .ok (.aload_n 2, 1) := by decide +kernel
theorem dX3_shownBytes_17 : decode cX3_shownBytes 17 = .ok (.ifnull 7, 3) := by decide +kernel
theorem dX3_shownBytes_20 : decode cX3_shownBytes 20 = .ok (.aload_n 2, 1) := by decide +kernel
theorem dX3_shownBytes_21 : decode cX3_shownBytes 21 = .ok (.invokevirtual 281, 3) := by decide +kernel
theorem dX3_shownBytes_24 : decode cX3_shownBytes 24 = .ok (.iinc 1 1, 3) := by decide +kernel
theorem dX3_shownBytes_27 : decode cX3_shownBytes 27 = .ok (.goto (-25), 3) := by decide +kernel
theorem dX3_shownBytes_30 : decode cX3_shownBytes 30 = .ok (.iconst 0, 1) := by decide +kernel
theorem dX3_shownBytes_31 : decode cX3_shownBytes 31 = .ok (.istore_n 1, 1) := by decide +kernel
theorem dX3_shownBytes_32 : decode cX3_shownBytes 32 = .ok (.iconst 1, 1) := by decide +kernel
theorem dX3_shownBytes_33 : decode cX3_shownBytes 33 = .ok (.istore_n 2, 1) := by decide +kernel
theorem dX3_shownBytes_34 : decode cX3_shownBytes 34 = .ok (.iload_n 2, 1) := by decide +kernel
theorem dX3_shownBytes_35 : decode cX3_shownBytes 35 = .ok (.sipush 341, 3) := by decide +kernel
theorem dX3_shownBytes_38 : decode cX3_shownBytes 38 = .ok (.if_icmp .ge 35, 3) := by decide +kernel
theorem dX3_shownBytes_41 : decode cX3_shownBytes 41 = .ok (.aload_n 0, 1) := by decide +kernel
theorem dX3_shownBytes_42 : decode cX3_shownBytes 42 = .ok (.aload_n 0, 1) := by decide +kernel
theorem dX3_shownBytes_43 : decode cX3_shownBytes 43 = .ok (.iload_n 2, 1) := by decide +kernel
theorem dX3_shownBytes_44 : decode cX3_shownBytes 44 = .ok (.invokevirtual 178, 3) := by decide +kernel
theorem dX3_shownBytes_47 : decode cX3_shownBytes 47 = .ok (.invokevirtual 61, 3) := by decide +kernel
theorem dX3_shownBytes_50 : decode cX3_shownBytes 50 = .ok (.astore_n 3, 1) := by decide +kernel
theorem dX3_shownBytes_51 : decode cX3_shownBytes 51 = .ok (.aload_n 3, 1) := by decide +kernel
theorem dX3_shownBytes_52 : decode cX3_shownBytes 52 = .ok (.ifnull 15, 3) := by decide +kernel
theorem dX3_shownBytes_55 : decode cX3_shownBytes 55 = .ok (.iload_n 1, 1) := by decide +kernel
theorem dX3_shownBytes_56 : decode cX3_shownBytes 56 = .ok (.aload_n 3, 1) := by decide +kernel
theorem dX3_shownBytes_57 : decode cX3_shownBytes 57 = .ok (.aload_n 0, 1) := by decide +kernel
theorem dX3_shownBytes_58 : decode cX3_shownBytes 58 = .ok (.iload_n 2, 1) := by decide +kernel
theorem dX3_shownBytes_59 : decode cX3_shownBytes 59 = .ok (.invokevirtual 133, 3) := by decide +kernel
theorem dX3_shownBytes_62 : decode cX3_shownBytes 62 = .ok (.invokevirtual 284, 3) := by decide +kernel
theorem dX3_shownBytes_65 : decode cX3_shownBytes 65 = .ok (.iadd, 1) := by decide +kernel
theorem dX3_shownBytes_66 : decode cX3_shownBytes 66 = .ok (.istore_n 1, 1) := by decide +kernel
theorem dX3_shownBytes_67 : decode cX3_shownBytes 67 = .ok (.iinc 2 1, 3) := by decide +kernel
theorem dX3_shownBytes_70 : decode cX3_shownBytes 70 = .ok (.goto (-36), 3) := by decide +kernel
theorem dX3_shownBytes_73 : decode cX3_shownBytes 73 = .ok (.iload_n 1, 1) := by decide +kernel
theorem dX3_shownBytes_74 : decode cX3_shownBytes 74 = .ok (.ireturn, 1) := by decide +kernel
theorem dX3_sizeNow_0 : decode cX3_sizeNow 0 = .ok (.iload_n 1, 1) := by decide +kernel
theorem dX3_sizeNow_1 : decode cX3_sizeNow 1 = .ok (.ifCond .eq 11, 3) := by decide +kernel
theorem dX3_sizeNow_4 : decode cX3_sizeNow 4 = .ok (.aload_n 0, 1) := by decide +kernel
theorem dX3_sizeNow_5 : decode cX3_sizeNow 5 = .ok (.iload_n 2, 1) := by decide +kernel
theorem dX3_sizeNow_6 : decode cX3_sizeNow 6 = .ok (.invokevirtual 186, 3) := by decide +kernel
theorem dX3_sizeNow_9 : decode cX3_sizeNow 9 = .ok (.goto 17, 3) := by decide +kernel
theorem dX3_sizeNow_12 : decode cX3_sizeNow 12 = .ok (.aload_n 0, 1) := by decide +kernel
theorem dX3_sizeNow_13 : decode cX3_sizeNow 13 = .ok (.iload_n 2, 1) := by decide +kernel
theorem dX3_sizeNow_14 : decode cX3_sizeNow 14 = .ok (.sipush 341, 3) := by decide +kernel
theorem dX3_sizeNow_17 : decode cX3_sizeNow 17 = .ok (.idiv, 1) := by decide +kernel
theorem dX3_sizeNow_18 : decode cX3_sizeNow 18 = .ok (.iload_n 2, 1) := by decide +kernel
theorem dX3_sizeNow_19 : decode cX3_sizeNow 19 = .ok (.sipush 341, 3) := by decide +kernel
theorem dX3_sizeNow_22 : decode cX3_sizeNow 22 = .ok (.irem, 1) := by decide +kernel
theorem dX3_sizeNow_23 : decode cX3_sizeNow 23 = .ok (.invokevirtual 198, 3) := by decide +kernel
theorem dX3_sizeNow_26 : decode cX3_sizeNow 26 = .ok (.ireturn, 1) := by decide +kernel
theorem dX3_endOfLinks_0 : decode cX3_endOfLinks 0 = .ok (.iload_n 1, 1) := by decide +kernel
theorem dX3_endOfLinks_1 : decode cX3_endOfLinks 1 = .ok (.istore_n 2, 1) := by decide +kernel
theorem dX3_endOfLinks_2 : decode cX3_endOfLinks 2 = .ok (.iconst 0, 1) := by decide +kernel
theorem dX3_endOfLinks_3 : decode cX3_endOfLinks 3 = .ok (.istore_n 3, 1) := by decide +kernel
theorem dX3_endOfLinks_4 : decode cX3_endOfLinks 4 = .ok (.iload_n 3, 1) := by decide +kernel
theorem dX3_endOfLinks_5 : decode cX3_endOfLinks 5 = .ok (.iconst 4, 1) := by decide +kernel
theorem dX3_endOfLinks_6 : decode cX3_endOfLinks 6 = .ok (.if_icmp .gt 90, 3) := by decide +kernel
theorem dX3_endOfLinks_9 : decode cX3_endOfLinks 9 = .ok (.iload_n 2, 1) := by decide +kernel
theorem dX3_endOfLinks_10 : decode cX3_endOfLinks 10 = .ok (.invokestatic 52, 3) := by decide +kernel
theorem dX3_endOfLinks_13 : decode cX3_endOfLinks 13 = .ok (.istore 4, 2) := by decide +kernel
theorem dX3_endOfLinks_15 : decode cX3_endOfLinks 15 = .ok (.aload_n 0, 1) := by decide +kernel
theorem dX3_endOfLinks_16 : decode cX3_endOfLinks 16 = .ok (.aload_n 0, 1) := by decide +kernel
theorem dX3_endOfLinks_17 : decode cX3_endOfLinks 17 = .ok (.iload 4, 2) := by decide +kernel
theorem dX3_endOfLinks_19 : decode cX3_endOfLinks 19 = .ok (.invokevirtual 178, 3) := by decide +kernel
theorem dX3_endOfLinks_22 : decode cX3_endOfLinks 22 = .ok (.invokevirtual 61, 3) := by decide +kernel
theorem dX3_endOfLinks_25 : decode cX3_endOfLinks 25 = .ok (.astore 5, 2) := by decide +kernel
theorem dX3_endOfLinks_27 : decode cX3_endOfLinks 27 = .ok (.aload 5, 2) := by decide +kernel
theorem dX3_endOfLinks_29 : decode cX3_endOfLinks 29 = .ok (.ifnull 18, 3) := by decide +kernel
theorem dX3_endOfLinks_32 : decode cX3_endOfLinks 32 = .ok (.aload 5, 2) := by decide +kernel
theorem dX3_endOfLinks_34 : decode cX3_endOfLinks 34 = .ok (.aload_n 0, 1) := by decide +kernel
theorem dX3_endOfLinks_35 : decode cX3_endOfLinks 35 = .ok (.iload 4, 2) := by decide +kernel
theorem dX3_endOfLinks_37 : decode cX3_endOfLinks 37 = .ok (.invokevirtual 133, 3) := by decide +kernel
theorem dX3_endOfLinks_40 : decode cX3_endOfLinks 40 = .ok (.invokevirtual 275, 3) := by decide +kernel
theorem dX3_endOfLinks_43 : decode cX3_endOfLinks 43 = .ok (.iconst 2, 1) := by decide +kernel
theorem dX3_endOfLinks_44 : decode cX3_endOfLinks 44 = .ok (.if_icmp .eq 5, 3) := by decide +kernel
theorem dX3_endOfLinks_47 : decode cX3_endOfLinks 47 = .ok (.iload_n 2, 1) := by decide +kernel
theorem dX3_endOfLinks_48 : decode cX3_endOfLinks 48 = .ok (.ireturn, 1) := by decide +kernel
theorem dX3_endOfLinks_49 : decode cX3_endOfLinks 49 = .ok (.aload 5, 2) := by decide +kernel
theorem dX3_endOfLinks_51 : decode cX3_endOfLinks 51 = .ok (.aload_n 0, 1) := by decide +kernel
theorem dX3_endOfLinks_52 : decode cX3_endOfLinks 52 = .ok (.iload 4, 2) := by decide +kernel
theorem dX3_endOfLinks_54 : decode cX3_endOfLinks 54 = .ok (.invokevirtual 133, 3) := by decide +kernel
theorem dX3_endOfLinks_57 : decode cX3_endOfLinks 57 = .ok (.invokevirtual 287, 3) := by decide +kernel
theorem dX3_endOfLinks_60 : decode cX3_endOfLinks 60 = .ok (.istore 6, 2) := by decide +kernel
theorem dX3_endOfLinks_62 : decode cX3_endOfLinks 62 = .ok (.aload_n 0, 1) := by decide +kernel
theorem dX3_endOfLinks_63 : decode cX3_endOfLinks 63 = .ok (.iload 4, 2) := by decide +kernel
theorem dX3_endOfLinks_65 : decode cX3_endOfLinks 65 = .ok (.iload 6, 2) := by decide +kernel
theorem dX3_endOfLinks_67 : decode cX3_endOfLinks 67 = .ok (.invokestatic 52, 3) := by decide +kernel
theorem dX3_endOfLinks_70 : decode cX3_endOfLinks 70 = .ok (.invokevirtual 290, 3) := by decide +kernel
theorem dX3_endOfLinks_73 : decode cX3_endOfLinks 73 = .ok (.ifCond .ne 14, 3) := by decide +kernel
theorem dX3_endOfLinks_76 : decode cX3_endOfLinks 76 = .ok (.new 77, 3) := by decide +kernel
theorem dX3_endOfLinks_79 : decode cX3_endOfLinks 79 = .ok (.dup, 1) := by decide +kernel
theorem dX3_endOfLinks_80 : decode cX3_endOfLinks 80 = .ok (.ldc_w 294, 3) := by decide +kernel
theorem dX3_endOfLinks_83 : decode cX3_endOfLinks 83 = .ok (.invokespecial 81, 3) := by decide +kernel
theorem dX3_endOfLinks_86 : decode cX3_endOfLinks 86 = .ok (.athrow, 1) := by decide +kernel
theorem dX3_endOfLinks_87 : decode cX3_endOfLinks 87 = .ok (.iload 6, 2) := by decide +kernel
theorem dX3_endOfLinks_89 : decode cX3_endOfLinks 89 = .ok (.istore_n 2, 1) := by decide +kernel
theorem dX3_endOfLinks_90 : decode cX3_endOfLinks 90 = .ok (.iinc 3 1, 3) := by decide +kernel
theorem dX3_endOfLinks_93 : decode cX3_endOfLinks 93 = .ok (.goto (-89), 3) := by decide +kernel
theorem dX3_endOfLinks_96 : decode cX3_endOfLinks 96 = .ok (.new 44, 3) := by decide +kernel
theorem dX3_endOfLinks_99 : decode cX3_endOfLinks 99 = .ok (.dup, 1) := by decide +kernel
theorem dX3_endOfLinks_100 : decode cX3_endOfLinks 100 = .ok (.ldc_w 296, 3) := by decide +kernel
theorem dX3_endOfLinks_103 : decode cX3_endOfLinks 103 = .ok (.invokespecial 48, 3) := by decide +kernel
theorem dX3_endOfLinks_106 : decode cX3_endOfLinks 106 = .ok (.athrow, 1) := by decide +kernel
theorem dX3_mayLead_0 : decode cX3_mayLead 0 = .ok (.aload_n 0, 1) := by decide +kernel
theorem dX3_mayLead_1 : decode cX3_mayLead 1 = .ok (.aload_n 0, 1) := by decide +kernel
theorem dX3_mayLead_2 : decode cX3_mayLead 2 = .ok (.iload_n 1, 1) := by decide +kernel
theorem dX3_mayLead_3 : decode cX3_mayLead 3 = .ok (.invokevirtual 113, 3) := by decide +kernel
theorem dX3_mayLead_6 : decode cX3_mayLead 6 = .ok (.invokevirtual 101, 3) := by decide +kernel
theorem dX3_mayLead_9 : decode cX3_mayLead 9 = .ok (.astore_n 3, 1) := by decide +kernel
theorem dX3_mayLead_10 : decode cX3_mayLead 10 = .ok (.aload_n 3, 1) := by decide +kernel
theorem dX3_mayLead_11 : decode cX3_mayLead 11 = .ok (.ifnull 27, 3) := by decide +kernel
theorem dX3_mayLead_14 : decode cX3_mayLead 14 = .ok (.aload_n 3, 1) := by decide +kernel
theorem dX3_mayLead_15 : decode cX3_mayLead 15 = .ok (.getfield 110, 3) := by decide +kernel
theorem dX3_mayLead_18 : decode cX3_mayLead 18 = .ok (.ifCond .ne 16, 3) := by decide +kernel
theorem dX3_mayLead_21 : decode cX3_mayLead 21 = .ok (.aload_n 0, 1) := by decide +kernel
theorem dX3_mayLead_22 : decode cX3_mayLead 22 = .ok (.iload_n 1, 1) := by decide +kernel
theorem dX3_mayLead_23 : decode cX3_mayLead 23 = .ok (.invokevirtual 113, 3) := by decide +kernel
theorem dX3_mayLead_26 : decode cX3_mayLead 26 = .ok (.aload_n 0, 1) := by decide +kernel
theorem dX3_mayLead_27 : decode cX3_mayLead 27 = .ok (.iload_n 2, 1) := by decide +kernel
theorem dX3_mayLead_28 : decode cX3_mayLead 28 = .ok (.invokevirtual 113, 3) := by decide +kernel
theorem dX3_mayLead_31 : decode cX3_mayLead 31 = .ok (.if_icmp .ne 7, 3) := by decide +kernel
theorem dX3_mayLead_34 : decode cX3_mayLead 34 = .ok (.iconst 1, 1) := by decide +kernel
theorem dX3_mayLead_35 : decode cX3_mayLead 35 = .ok (.goto 4, 3) := by decide +kernel
theorem dX3_mayLead_38 : decode cX3_mayLead 38 = .ok (.iconst 0, 1) := by decide +kernel
theorem dX3_mayLead_39 : decode cX3_mayLead 39 = .ok (.ireturn, 1) := by decide +kernel
theorem dX3_layerToWrite_0 : decode cX3_layerToWrite 0 = .ok (.aload_n 0, 1) := by decide +kernel
theorem dX3_layerToWrite_1 : decode cX3_layerToWrite 1 = .ok (.aload_n 0, 1) := by decide +kernel
theorem dX3_layerToWrite_2 : decode cX3_layerToWrite 2 = .ok (.iload_n 1, 1) := by decide +kernel
theorem dX3_layerToWrite_3 : decode cX3_layerToWrite 3 = .ok (.invokevirtual 113, 3) := by decide +kernel
theorem dX3_layerToWrite_6 : decode cX3_layerToWrite 6 = .ok (.invokevirtual 101, 3) := by decide +kernel
theorem dX3_layerToWrite_9 : decode cX3_layerToWrite 9 = .ok (.astore_n 2, 1) := by decide +kernel
theorem dX3_layerToWrite_10 : decode cX3_layerToWrite 10 = .ok (.aload_n 2, 1) := by decide +kernel
theorem dX3_layerToWrite_11 : decode cX3_layerToWrite 11 = .ok (.ifnonnull 7, 3) := by decide +kernel
theorem dX3_layerToWrite_14 : decode cX3_layerToWrite 14 = .ok (.aconst_null, 1) := by decide +kernel
theorem dX3_layerToWrite_15 : decode cX3_layerToWrite 15 = .ok (.goto 11, 3) := by decide +kernel
theorem dX3_layerToWrite_18 : decode cX3_layerToWrite 18 = .ok (.aload_n 0, 1) := by decide +kernel
theorem dX3_layerToWrite_19 : decode cX3_layerToWrite 19 = .ok (.aload_n 2, 1) := by decide +kernel
theorem dX3_layerToWrite_20 : decode cX3_layerToWrite 20 = .ok (.invokevirtual 170, 3) := by decide +kernel
theorem dX3_layerToWrite_23 : decode cX3_layerToWrite 23 = .ok (.invokevirtual 61, 3) := by decide +kernel
theorem dX3_layerToWrite_26 : decode cX3_layerToWrite 26 = .ok (.astore_n 3, 1) := by decide +kernel
theorem dX3_layerToWrite_27 : decode cX3_layerToWrite 27 = .ok (.aload_n 3, 1) := by decide +kernel
theorem dX3_layerToWrite_28 : decode cX3_layerToWrite 28 = .ok (.ifnull 11, 3) := by decide +kernel
theorem dX3_layerToWrite_31 : decode cX3_layerToWrite 31 = .ok (.aload_n 0, 1) := by decide +kernel
theorem dX3_layerToWrite_32 : decode cX3_layerToWrite 32 = .ok (.iload_n 1, 1) := by decide +kernel
theorem dX3_layerToWrite_33 : decode cX3_layerToWrite 33 = .ok (.invokevirtual 133, 3) := by decide +kernel
theorem dX3_layerToWrite_36 : decode cX3_layerToWrite 36 = .ok (.ifCond .ne 14, 3) := by decide +kernel
theorem dX3_layerToWrite_39 : decode cX3_layerToWrite 39 = .ok (.new 116, 3) := by decide +kernel
theorem dX3_layerToWrite_42 : decode cX3_layerToWrite 42 = .ok (.dup, 1) := by decide +kernel
theorem dX3_layerToWrite_43 : decode cX3_layerToWrite 43 = .ok (.ldc_w 298, 3) := by decide +kernel
theorem dX3_layerToWrite_46 : decode cX3_layerToWrite 46 = .ok (.invokespecial 120, 3) := by decide +kernel
theorem dX3_layerToWrite_49 : decode cX3_layerToWrite 49 = .ok (.athrow, 1) := by decide +kernel
theorem dX3_layerToWrite_50 : decode cX3_layerToWrite 50 = .ok (.aload_n 3, 1) := by decide +kernel
theorem dX3_layerToWrite_51 : decode cX3_layerToWrite 51 = .ok (.areturn, 1) := by decide +kernel
theorem dX3_putAt_0 : decode cX3_putAt 0 = .ok (.aload_n 0, 1) := by decide +kernel
theorem dX3_putAt_1 : decode cX3_putAt 1 = .ok (.aload_n 0, 1) := by decide +kernel
theorem dX3_putAt_2 : decode cX3_putAt 2 = .ok (.iload_n 1, 1) := by decide +kernel
theorem dX3_putAt_3 : decode cX3_putAt 3 = .ok (.invokevirtual 113, 3) := by decide +kernel
theorem dX3_putAt_6 : decode cX3_putAt 6 = .ok (.invokevirtual 101, 3) := by decide +kernel
theorem dX3_putAt_9 : decode cX3_putAt 9 = .ok (.astore 6, 2) := by decide +kernel
theorem dX3_putAt_11 : decode cX3_putAt 11 = .ok (.aload 6, 2) := by decide +kernel
theorem dX3_putAt_13 : decode cX3_putAt 13 = .ok (.ifnull 35, 3) := by decide +kernel
theorem dX3_putAt_16 : decode cX3_putAt 16 = .ok (.aload 6, 2) := by decide +kernel
theorem dX3_putAt_18 : decode cX3_putAt 18 = .ok (.getfield 158, 3) := by decide +kernel
theorem dX3_putAt_21 : decode cX3_putAt 21 = .ok (.iconst (-1), 1) := by decide +kernel
theorem dX3_putAt_22 : decode cX3_putAt 22 = .ok (.if_icmp .eq 26, 3) := by decide +kernel
theorem dX3_putAt_25 : decode cX3_putAt 25 = .ok (.aload_n 0, 1) := by decide +kernel
theorem dX3_putAt_26 : decode cX3_putAt 26 = .ok (.iload_n 1, 1) := by decide +kernel
theorem dX3_putAt_27 : decode cX3_putAt 27 = .ok (.invokevirtual 178, 3) := by decide +kernel
theorem dX3_putAt_30 : decode cX3_putAt 30 = .ok (.aload 6, 2) := by decide +kernel
theorem dX3_putAt_32 : decode cX3_putAt 32 = .ok (.getfield 161, 3) := by decide +kernel
theorem dX3_putAt_35 : decode cX3_putAt 35 = .ok (.if_icmp .ne 13, 3) := by decide +kernel
theorem dX3_putAt_38 : decode cX3_putAt 38 = .ok (.aload_n 0, 1) := by decide +kernel
theorem dX3_putAt_39 : decode cX3_putAt 39 = .ok (.dup, 1) := by decide +kernel
theorem dX3_putAt_40 : decode cX3_putAt 40 = .ok (.getfield 219, 3) := by decide +kernel
theorem dX3_putAt_43 : decode cX3_putAt 43 = .ok (.iconst 1, 1) := by decide +kernel
theorem dX3_putAt_44 : decode cX3_putAt 44 = .ok (.iadd, 1) := by decide +kernel
theorem dX3_putAt_45 : decode cX3_putAt 45 = .ok (.putfield 219, 3) := by decide +kernel
theorem dX3_putAt_48 : decode cX3_putAt 48 = .ok (.aload_n 0, 1) := by decide +kernel
theorem dX3_putAt_49 : decode cX3_putAt 49 = .ok (.aload_n 2, 1) := by decide +kernel
theorem dX3_putAt_50 : decode cX3_putAt 50 = .ok (.aload_n 0, 1) := by decide +kernel
theorem dX3_putAt_51 : decode cX3_putAt 51 = .ok (.iload_n 1, 1) := by decide +kernel
theorem dX3_putAt_52 : decode cX3_putAt 52 = .ok (.invokevirtual 133, 3) := by decide +kernel
theorem dX3_putAt_55 : decode cX3_putAt 55 = .ok (.iload_n 3, 1) := by decide +kernel
theorem dX3_putAt_56 : decode cX3_putAt 56 = .ok (.iload 4, 2) := by decide +kernel
theorem dX3_putAt_58 : decode cX3_putAt 58 = .ok (.iload 5, 2) := by decide +kernel
theorem dX3_putAt_60 : decode cX3_putAt 60 = .ok (.invokevirtual 174, 3) := by decide +kernel
theorem dX3_putAt_63 : decode cX3_putAt 63 = .ok (.return_, 1) := by decide +kernel
theorem dX3_change_0 : decode cX3_change 0 = .ok (.aload_n 1, 1) := by decide +kernel
theorem dX3_change_1 : decode cX3_change 1 = .ok (.ifnull 39, 3) := by decide +kernel
theorem dX3_change_4 : decode cX3_change 4 = .ok (.aload_n 0, 1) := by decide +kernel
theorem dX3_change_5 : decode cX3_change 5 = .ok (.aload_n 1, 1) := by decide +kernel
theorem dX3_change_6 : decode cX3_change 6 = .ok (.iload_n 2, 1) := by decide +kernel
theorem dX3_change_7 : decode cX3_change 7 = .ok (.invokevirtual 201, 3) := by decide +kernel
theorem dX3_change_10 : decode cX3_change 10 = .ok (.aload_n 1, 1) := by decide +kernel
theorem dX3_change_11 : decode cX3_change 11 = .ok (.iload_n 2, 1) := by decide +kernel
theorem dX3_change_12 : decode cX3_change 12 = .ok (.invokevirtual 155, 3) := by decide +kernel
theorem dX3_change_15 : decode cX3_change 15 = .ok (.ineg, 1) := by decide +kernel
theorem dX3_change_16 : decode cX3_change 16 = .ok (.invokevirtual 300, 3) := by decide +kernel
theorem dX3_change_19 : decode cX3_change 19 = .ok (.aload_n 1, 1) := by decide +kernel
theorem dX3_change_20 : decode cX3_change 20 = .ok (.iload_n 2, 1) := by decide +kernel
theorem dX3_change_21 : decode cX3_change 21 = .ok (.iload_n 3, 1) := by decide +kernel
theorem dX3_change_22 : decode cX3_change 22 = .ok (.iload 4, 2) := by decide +kernel
theorem dX3_change_24 : decode cX3_change 24 = .ok (.iload 5, 2) := by decide +kernel
theorem dX3_change_26 : decode cX3_change 26 = .ok (.invokevirtual 303, 3) := by decide +kernel
theorem dX3_change_29 : decode cX3_change 29 = .ok (.aload_n 0, 1) := by decide +kernel
theorem dX3_change_30 : decode cX3_change 30 = .ok (.iload 4, 2) := by decide +kernel
theorem dX3_change_32 : decode cX3_change 32 = .ok (.aload_n 1, 1) := by decide +kernel
theorem dX3_change_33 : decode cX3_change 33 = .ok (.iload_n 2, 1) := by decide +kernel
theorem dX3_change_34 : decode cX3_change 34 = .ok (.invokevirtual 155, 3) := by decide +kernel
theorem dX3_change_37 : decode cX3_change 37 = .ok (.invokevirtual 300, 3) := by decide +kernel
theorem dX3_change_40 : decode cX3_change 40 = .ok (.return_, 1) := by decide +kernel
theorem dX4_init_0 : decode cX4_init 0 = .ok (.aload_n 0, 1) := by decide +kernel
theorem dX4_init_1 : decode cX4_init 1 = .ok (.invokespecial 1, 3) := by decide +kernel
theorem dX4_init_4 : decode cX4_init 4 = .ok (.aload_n 0, 1) := by decide +kernel
theorem dX4_init_5 : decode cX4_init 5 = .ok (.sipush 2046, 3) := by decide +kernel
theorem dX4_init_8 : decode cX4_init 8 = .ok (.newarray .int, 2) := by decide +kernel
theorem dX4_init_10 : decode cX4_init 10 = .ok (.putfield 7, 3) := by decide +kernel
theorem dX4_init_13 : decode cX4_init 13 = .ok (.aload_n 0, 1) := by decide +kernel
theorem dX4_init_14 : decode cX4_init 14 = .ok (.sipush 2046, 3) := by decide +kernel
theorem dX4_init_17 : decode cX4_init 17 = .ok (.newarray .int, 2) := by decide +kernel
theorem dX4_init_19 : decode cX4_init 19 = .ok (.putfield 13, 3) := by decide +kernel
theorem dX4_init_22 : decode cX4_init 22 = .ok (.aload_n 0, 1) := by decide +kernel
theorem dX4_init_23 : decode cX4_init 23 = .ok (.sipush 2046, 3) := by decide +kernel
theorem dX4_init_26 : decode cX4_init 26 = .ok (.newarray .int, 2) := by decide +kernel
theorem dX4_init_28 : decode cX4_init 28 = .ok (.putfield 16, 3) := by decide +kernel
theorem dX4_init_31 : decode cX4_init 31 = .ok (.aload_n 0, 1) := by decide +kernel
theorem dX4_init_32 : decode cX4_init 32 = .ok (.bipush 8, 2) := by decide +kernel
theorem dX4_init_34 : decode cX4_init 34 = .ok (.newarray .int, 2) := by decide +kernel
theorem dX4_init_36 : decode cX4_init 36 = .ok (.putfield 19, 3) := by decide +kernel
theorem dX4_init_39 : decode cX4_init 39 = .ok (.aload_n 0, 1) := by decide +kernel
theorem dX4_init_40 : decode cX4_init 40 = .ok (.bipush 8, 2) := by decide +kernel
theorem dX4_init_42 : decode cX4_init 42 = .ok (.newarray .int, 2) := by decide +kernel
theorem dX4_init_44 : decode cX4_init 44 = .ok (.putfield 22, 3) := by decide +kernel
theorem dX4_init_47 : decode cX4_init 47 = .ok (.aload_n 0, 1) := by decide +kernel
theorem dX4_init_48 : decode cX4_init 48 = .ok (.bipush 8, 2) := by decide +kernel
theorem dX4_init_50 : decode cX4_init 50 = .ok (.newarray .int, 2) := by decide +kernel
theorem dX4_init_52 : decode cX4_init 52 = .ok (.putfield 25, 3) := by decide +kernel
theorem dX4_init_55 : decode cX4_init 55 = .ok (.aload_n 0, 1) := by decide +kernel
theorem dX4_init_56 : decode cX4_init 56 = .ok (.bipush 8, 2) := by decide +kernel
theorem dX4_init_58 : decode cX4_init 58 = .ok (.newarray .boolean, 2) := by decide +kernel
theorem dX4_init_60 : decode cX4_init 60 = .ok (.putfield 28, 3) := by decide +kernel
theorem dX4_init_63 : decode cX4_init 63 = .ok (.aload_n 0, 1) := by decide +kernel
theorem dX4_init_64 : decode cX4_init 64 = .ok (.bipush 8, 2) := by decide +kernel
theorem dX4_init_66 : decode cX4_init 66 = .ok (.newarray .boolean, 2) := by decide +kernel
theorem dX4_init_68 : decode cX4_init 68 = .ok (.putfield 32, 3) := by decide +kernel
theorem dX4_init_71 : decode cX4_init 71 = .ok (.aload_n 0, 1) := by decide +kernel
theorem dX4_init_72 : decode cX4_init 72 = .ok (.iconst 4, 1) := by decide +kernel
theorem dX4_init_73 : decode cX4_init 73 = .ok (.newarray .int, 2) := by decide +kernel
theorem dX4_init_75 : decode cX4_init 75 = .ok (.putfield 35, 3) := by decide +kernel
theorem dX4_init_78 : decode cX4_init 78 = .ok (.aload_n 0, 1) := by decide +kernel
theorem dX4_init_79 : decode cX4_init 79 = .ok (.sipush 12276, 3) := by decide +kernel
theorem dX4_init_82 : decode cX4_init 82 = .ok (.newarray .int, 2) := by decide +kernel
theorem dX4_init_84 : decode cX4_init 84 = .ok (.putfield 38, 3) := by decide +kernel
theorem dX4_init_87 : decode cX4_init 87 = .ok (.aload_n 0, 1) := by decide +kernel
theorem dX4_init_88 : decode cX4_init 88 = .ok (.bipush 6, 2) := by decide +kernel
theorem dX4_init_90 : decode cX4_init 90 = .ok (.newarray .boolean, 2) := by decide +kernel
theorem dX4_init_92 : decode cX4_init 92 = .ok (.putfield 41, 3) := by decide +kernel
theorem dX4_init_95 : decode cX4_init 95 = .ok (.iconst 0, 1) := by decide +kernel
theorem dX4_init_96 : decode cX4_init 96 = .ok (.istore_n 1, 1) := by decide +kernel
theorem dX4_init_97 : decode cX4_init 97 = .ok (.iload_n 1, 1) := by decide +kernel
theorem dX4_init_98 : decode cX4_init 98 = .ok (.iconst 4, 1) := by decide +kernel
theorem dX4_init_99 : decode cX4_init 99 = .ok (.if_icmp .ge 18, 3) := by decide +kernel
theorem dX4_init_102 : decode cX4_init 102 = .ok (.aload_n 0, 1) := by decide +kernel
theorem dX4_init_103 : decode cX4_init 103 = .ok (.getfield 35, 3) := by decide +kernel
theorem dX4_init_106 : decode cX4_init 106 = .ok (.iload_n 1, 1) := by decide +kernel
theorem dX4_init_107 : decode cX4_init 107 = .ok (.sipush 20000, 3) := by decide +kernel
theorem dX4_init_110 : decode cX4_init 110 = .ok (.iastore, 1) := by decide +kernel
theorem dX4_init_111 : decode cX4_init 111 = .ok (.iinc 1 1, 3) := by decide +kernel
theorem dX4_init_114 : decode cX4_init 114 = .ok (.goto (-17), 3) := by decide +kernel
theorem dX4_init_117 : decode cX4_init 117 = .ok (.return_, 1) := by decide +kernel
theorem dX4_thrown_0 : decode cX4_thrown 0 = .ok (.aload_n 0, 1) := by decide +kernel
theorem dX4_thrown_1 : decode cX4_thrown 1 = .ok (.getfield 44, 3) := by decide +kernel
theorem dX4_thrown_4 : decode cX4_thrown 4 = .ok (.ireturn, 1) := by decide +kernel
theorem dX4_in_0 : decode cX4_in 0 = .ok (.lload_n 0, 1) := by decide +kernel
theorem dX4_in_1 : decode cX4_in 1 = .ok (.lload_n 2, 1) := by decide +kernel
theorem dX4_in_2 : decode cX4_in 2 = .ok (.lcmp, 1) := by decide +kernel
theorem dX4_in_3 : decode cX4_in 3 = .ok (.ifCond .lt 14, 3) := by decide +kernel
theorem dX4_in_6 : decode cX4_in 6 = .ok (.lload_n 0, 1) := by decide +kernel
theorem dX4_in_7 : decode cX4_in 7 = .ok (.lload 4, 2) := by decide +kernel
theorem dX4_in_9 : decode cX4_in 9 = .ok (.lcmp, 1) := by decide +kernel
theorem dX4_in_10 : decode cX4_in 10 = .ok (.ifCond .gt 7, 3) := by decide +kernel
theorem dX4_in_13 : decode cX4_in 13 = .ok (.iconst 1, 1) := by decide +kernel
theorem dX4_in_14 : decode cX4_in 14 = .ok (.goto 4, 3) := by decide +kernel
theorem dX4_in_17 : decode cX4_in 17 = .ok (.iconst 0, 1) := by decide +kernel
theorem dX4_in_18 : decode cX4_in 18 = .ok (.ireturn, 1) := by decide +kernel
theorem dX4_isPath_0 : decode cX4_isPath 0 = .ok (.iload_n 0, 1) := by decide +kernel
theorem dX4_isPath_1 : decode cX4_isPath 1 = .ok (.i2l, 1) := by decide +kernel
theorem dX4_isPath_2 : decode cX4_isPath 2 = .ok (.lconst 0, 1) := by decide +kernel
theorem dX4_isPath_3 : decode cX4_isPath 3 = .ok (.ldc2_w 48, 3) := by decide +kernel
theorem dX4_isPath_6 : decode cX4_isPath 6 = .ok (.invokestatic 50, 3) := by decide +kernel
theorem dX4_isPath_9 : decode cX4_isPath 9 = .ok (.istore_n 1, 1) := by decide +kernel
theorem dX4_isPath_10 : decode cX4_isPath 10 = .ok (.iload_n 0, 1) := by decide +kernel
theorem dX4_isPath_11 : decode cX4_isPath 11 = .ok (.istore_n 2, 1) := by decide +kernel
theorem dX4_isPath_12 : decode cX4_isPath 12 = .ok (.iload_n 2, 1) := by decide +kernel
theorem dX4_isPath_13 : decode cX4_isPath 13 = .ok (.ifCond .le 36, 3) := by decide +kernel
theorem dX4_isPath_16 : decode cX4_isPath 16 = .ok (.iload_n 1, 1) := by decide +kernel
theorem dX4_isPath_17 : decode cX4_isPath 17 = .ok (.ifCond .eq 22, 3) := by decide +kernel
theorem dX4_isPath_20 : decode cX4_isPath 20 = .ok (.iload_n 2, 1) := by decide +kernel
theorem dX4_isPath_21 : decode cX4_isPath 21 = .ok (.bipush 10, 2) := by decide +kernel
theorem dX4_isPath_23 : decode cX4_isPath 23 = .ok (.irem, 1) := by decide +kernel
theorem dX4_isPath_24 : decode cX4_isPath 24 = .ok (.i2l, 1) := by decide +kernel
theorem dX4_isPath_25 : decode cX4_isPath 25 = .ok (.lconst 1, 1) := by decide +kernel
theorem dX4_isPath_26 : decode cX4_isPath 26 = .ok (.ldc2_w 54, 3) := by decide +kernel
theorem dX4_isPath_29 : decode cX4_isPath 29 = .ok (.invokestatic 50, 3) := by decide +kernel
theorem dX4_isPath_32 : decode cX4_isPath 32 = .ok (.ifCond .eq 7, 3) := by decide +kernel
theorem dX4_isPath_35 : decode cX4_isPath 35 = .ok (.iconst 1, 1) := by decide +kernel
theorem dX4_isPath_36 : decode cX4_isPath 36 = .ok (.goto 4, 3) := by decide +kernel
theorem dX4_isPath_39 : decode cX4_isPath 39 = .ok (.iconst 0, 1) := by decide +kernel
theorem dX4_isPath_40 : decode cX4_isPath 40 = .ok (.istore_n 1, 1) := by decide +kernel
theorem dX4_isPath_41 : decode cX4_isPath 41 = .ok (.iload_n 2, 1) := by decide +kernel
theorem dX4_isPath_42 : decode cX4_isPath 42 = .ok (.bipush 10, 2) := by decide +kernel
theorem dX4_isPath_44 : decode cX4_isPath 44 = .ok (.idiv, 1) := by decide +kernel
theorem dX4_isPath_45 : decode cX4_isPath 45 = .ok (.istore_n 2, 1) := by decide +kernel
theorem dX4_isPath_46 : decode cX4_isPath 46 = .ok (.goto (-34), 3) := by decide +kernel
theorem dX4_isPath_49 : decode cX4_isPath 49 = .ok (.iload_n 1, 1) := by decide +kernel
theorem dX4_isPath_50 : decode cX4_isPath 50 = .ok (.ireturn, 1) := by decide +kernel
theorem dX4_digits_0 : decode cX4_digits 0 = .ok (.iconst 0, 1) := by decide +kernel
theorem dX4_digits_1 : decode cX4_digits 1 = .ok (.istore_n 1, 1) := by decide +kernel
theorem dX4_digits_2 : decode cX4_digits 2 = .ok (.iload_n 0, 1) := by decide +kernel
theorem dX4_digits_3 : decode cX4_digits 3 = .ok (.istore_n 2, 1) := by decide +kernel
theorem dX4_digits_4 : decode cX4_digits 4 = .ok (.iload_n 2, 1) := by decide +kernel
theorem dX4_digits_5 : decode cX4_digits 5 = .ok (.ifCond .le 14, 3) := by decide +kernel
theorem dX4_digits_8 : decode cX4_digits 8 = .ok (.iinc 1 1, 3) := by decide +kernel
theorem dX4_digits_11 : decode cX4_digits 11 = .ok (.iload_n 2, 1) := by decide +kernel
theorem dX4_digits_12 : decode cX4_digits 12 = .ok (.bipush 10, 2) := by decide +kernel
theorem dX4_digits_14 : decode cX4_digits 14 = .ok (.idiv, 1) := by decide +kernel
theorem dX4_digits_15 : decode cX4_digits 15 = .ok (.istore_n 2, 1) := by decide +kernel
theorem dX4_digits_16 : decode cX4_digits 16 = .ok (.goto (-12), 3) := by decide +kernel
theorem dX4_digits_19 : decode cX4_digits 19 = .ok (.iload_n 1, 1) := by decide +kernel
theorem dX4_digits_20 : decode cX4_digits 20 = .ok (.ireturn, 1) := by decide +kernel
theorem dX4_power_0 : decode cX4_power 0 = .ok (.iconst 1, 1) := by decide +kernel
theorem dX4_power_1 : decode cX4_power 1 = .ok (.istore_n 2, 1) := by decide +kernel
theorem dX4_power_2 : decode cX4_power 2 = .ok (.iconst 0, 1) := by decide +kernel
theorem dX4_power_3 : decode cX4_power 3 = .ok (.istore_n 3, 1) := by decide +kernel
theorem dX4_power_4 : decode cX4_power 4 = .ok (.iload_n 3, 1) := by decide +kernel
theorem dX4_power_5 : decode cX4_power 5 = .ok (.iload_n 1, 1) := by decide +kernel
theorem dX4_power_6 : decode cX4_power 6 = .ok (.if_icmp .ge 13, 3) := by decide +kernel
theorem dX4_power_9 : decode cX4_power 9 = .ok (.iload_n 2, 1) := by decide +kernel
theorem dX4_power_10 : decode cX4_power 10 = .ok (.iload_n 0, 1) := by decide +kernel
theorem dX4_power_11 : decode cX4_power 11 = .ok (.imul, 1) := by decide +kernel
theorem dX4_power_12 : decode cX4_power 12 = .ok (.istore_n 2, 1) := by decide +kernel
theorem dX4_power_13 : decode cX4_power 13 = .ok (.iinc 3 1, 3) := by decide +kernel
theorem dX4_power_16 : decode cX4_power 16 = .ok (.goto (-12), 3) := by decide +kernel
theorem dX4_power_19 : decode cX4_power 19 = .ok (.iload_n 2, 1) := by decide +kernel
theorem dX4_power_20 : decode cX4_power 20 = .ok (.ireturn, 1) := by decide +kernel
theorem dX4_rank_0 : decode cX4_rank 0 = .ok (.iload_n 0, 1) := by decide +kernel
theorem dX4_rank_1 : decode cX4_rank 1 = .ok (.invokestatic 56, 3) := by decide +kernel
theorem dX4_rank_4 : decode cX4_rank 4 = .ok (.istore_n 1, 1) := by decide +kernel
theorem dX4_rank_5 : decode cX4_rank 5 = .ok (.iconst 0, 1) := by decide +kernel
theorem dX4_rank_6 : decode cX4_rank 6 = .ok (.istore_n 2, 1) := by decide +kernel
theorem dX4_rank_7 : decode cX4_rank 7 = .ok (.iload_n 1, 1) := by decide +kernel
theorem dX4_rank_8 : decode cX4_rank 8 = .ok (.iconst 1, 1) := by decide +kernel
theorem dX4_rank_9 : decode cX4_rank 9 = .ok (.isub, 1) := by decide +kernel
theorem dX4_rank_10 : decode cX4_rank 10 = .ok (.istore_n 3, 1) := by decide +kernel
theorem dX4_rank_11 : decode cX4_rank 11 = .ok (.iload_n 3, 1) := by decide +kernel
theorem dX4_rank_12 : decode cX4_rank 12 = .ok (.ifCond .lt 27, 3) := by decide +kernel
theorem dX4_rank_15 : decode cX4_rank 15 = .ok (.iconst 4, 1) := by decide +kernel
theorem dX4_rank_16 : decode cX4_rank 16 = .ok (.iload_n 2, 1) := by decide +kernel
theorem dX4_rank_17 : decode cX4_rank 17 = .ok (.imul, 1) := by decide +kernel
theorem dX4_rank_18 : decode cX4_rank 18 = .ok (.iload_n 0, 1) := by decide +kernel
theorem dX4_rank_19 : decode cX4_rank 19 = .ok (.bipush 10, 2) := by decide +kernel
theorem dX4_rank_21 : decode cX4_rank 21 = .ok (.iload_n 3, 1) := by decide +kernel
theorem dX4_rank_22 : decode cX4_rank 22 = .ok (.invokestatic 60, 3) := by decide +kernel
theorem dX4_rank_25 : decode cX4_rank 25 = .ok (.idiv, 1) := by decide +kernel
theorem dX4_rank_26 : decode cX4_rank 26 = .ok (.bipush 10, 2) := by decide +kernel
theorem dX4_rank_28 : decode cX4_rank 28 = .ok (.irem, 1) := by decide +kernel
theorem dX4_rank_29 : decode cX4_rank 29 = .ok (.iadd, 1) := by decide +kernel
theorem dX4_rank_30 : decode cX4_rank 30 = .ok (.iconst 1, 1) := by decide +kernel
theorem dX4_rank_31 : decode cX4_rank 31 = .ok (.isub, 1) := by decide +kernel
theorem dX4_rank_32 : decode cX4_rank 32 = .ok (.istore_n 2, 1) := by decide +kernel
theorem dX4_rank_33 : decode cX4_rank 33 = .ok (.iinc 3 (-1), 3) := by decide +kernel
theorem dX4_rank_36 : decode cX4_rank 36 = .ok (.goto (-25), 3) := by decide +kernel
theorem dX4_rank_39 : decode cX4_rank 39 = .ok (.iconst 4, 1) := by decide +kernel
theorem dX4_rank_40 : decode cX4_rank 40 = .ok (.iload_n 1, 1) := by decide +kernel
theorem dX4_rank_41 : decode cX4_rank 41 = .ok (.invokestatic 60, 3) := by decide +kernel
theorem dX4_rank_44 : decode cX4_rank 44 = .ok (.iconst 1, 1) := by decide +kernel
theorem dX4_rank_45 : decode cX4_rank 45 = .ok (.isub, 1) := by decide +kernel
theorem dX4_rank_46 : decode cX4_rank 46 = .ok (.iconst 3, 1) := by decide +kernel
theorem dX4_rank_47 : decode cX4_rank 47 = .ok (.idiv, 1) := by decide +kernel
theorem dX4_rank_48 : decode cX4_rank 48 = .ok (.iload_n 2, 1) := by decide +kernel
theorem dX4_rank_49 : decode cX4_rank 49 = .ok (.iadd, 1) := by decide +kernel
theorem dX4_rank_50 : decode cX4_rank 50 = .ok (.ireturn, 1) := by decide +kernel
theorem dX4_pathOf_0 : decode cX4_pathOf 0 = .ok (.iconst 0, 1) := by decide +kernel
theorem dX4_pathOf_1 : decode cX4_pathOf 1 = .ok (.istore_n 1, 1) := by decide +kernel
theorem dX4_pathOf_2 : decode cX4_pathOf 2 = .ok (.iload_n 0, 1) := by decide +kernel
theorem dX4_pathOf_3 : decode cX4_pathOf 3 = .ok (.istore_n 2, 1) := by decide +kernel
theorem dX4_pathOf_4 : decode cX4_pathOf 4 = .ok (.iload_n 2, 1) := by decide +kernel
theorem dX4_pathOf_5 : decode cX4_pathOf 5 = .ok (.iconst 4, 1) := by decide +kernel
theorem dX4_pathOf_6 : decode cX4_pathOf 6 = .ok (.iload_n 1, 1) := by decide +kernel
theorem dX4_pathOf_7 : decode cX4_pathOf 7 = .ok (.invokestatic 60, 3) := by decide +kernel
theorem dX4_pathOf_10 : decode cX4_pathOf 10 = .ok (.if_icmp .lt 17, 3) := by decide +kernel
theorem dX4_pathOf_13 : decode cX4_pathOf 13 = .ok (.iload_n 2, 1) := by decide +kernel
theorem dX4_pathOf_14 : decode cX4_pathOf 14 = .ok (.iconst 4, 1) := by decide +kernel
theorem dX4_pathOf_15 : decode cX4_pathOf 15 = .ok (.iload_n 1, 1) := by decide +kernel
theorem dX4_pathOf_16 : decode cX4_pathOf 16 = .ok (.invokestatic 60, 3) := by decide +kernel
theorem dX4_pathOf_19 : decode cX4_pathOf 19 = .ok (.isub, 1) := by decide +kernel
theorem dX4_pathOf_20 : decode cX4_pathOf 20 = .ok (.istore_n 2, 1) := by decide +kernel
theorem dX4_pathOf_21 : decode cX4_pathOf 21 = .ok (.iinc 1 1, 3) := by decide +kernel
theorem dX4_pathOf_24 : decode cX4_pathOf 24 = .ok (.goto (-20), 3) := by decide +kernel
theorem dX4_pathOf_27 : decode cX4_pathOf 27 = .ok (.iconst 0, 1) := by decide +kernel
theorem dX4_pathOf_28 : decode cX4_pathOf 28 = .ok (.istore_n 3, 1) := by decide +kernel
theorem dX4_pathOf_29 : decode cX4_pathOf 29 = .ok (.iload_n 1, 1) := by decide +kernel
theorem dX4_pathOf_30 : decode cX4_pathOf 30 = .ok (.iconst 1, 1) := by decide +kernel
theorem dX4_pathOf_31 : decode cX4_pathOf 31 = .ok (.isub, 1) := by decide +kernel
theorem dX4_pathOf_32 : decode cX4_pathOf 32 = .ok (.istore 4, 2) := by decide +kernel
theorem dX4_pathOf_34 : decode cX4_pathOf 34 = .ok (.iload 4, 2) := by decide +kernel
theorem dX4_pathOf_36 : decode cX4_pathOf 36 = .ok (.ifCond .lt 27, 3) := by decide +kernel
theorem dX4_pathOf_39 : decode cX4_pathOf 39 = .ok (.bipush 10, 2) := by decide +kernel
theorem dX4_pathOf_41 : decode cX4_pathOf 41 = .ok (.iload_n 3, 1) := by decide +kernel
theorem dX4_pathOf_42 : decode cX4_pathOf 42 = .ok (.imul, 1) := by decide +kernel
theorem dX4_pathOf_43 : decode cX4_pathOf 43 = .ok (.iload_n 2, 1) := by decide +kernel
theorem dX4_pathOf_44 : decode cX4_pathOf 44 = .ok (.iconst 4, 1) := by decide +kernel
theorem dX4_pathOf_45 : decode cX4_pathOf 45 = .ok (.iload 4, 2) := by decide +kernel
theorem dX4_pathOf_47 : decode cX4_pathOf 47 = .ok (.invokestatic 60, 3) := by decide +kernel
theorem dX4_pathOf_50 : decode cX4_pathOf 50 = .ok (.idiv, 1) := by decide +kernel
theorem dX4_pathOf_51 : decode cX4_pathOf 51 = .ok (.iconst 4, 1) := by decide +kernel
theorem dX4_pathOf_52 : decode cX4_pathOf 52 = .ok (.irem, 1) := by decide +kernel
theorem dX4_pathOf_53 : decode cX4_pathOf 53 = .ok (.iadd, 1) := by decide +kernel
theorem dX4_pathOf_54 : decode cX4_pathOf 54 = .ok (.iconst 1, 1) := by decide +kernel
theorem dX4_pathOf_55 : decode cX4_pathOf 55 = .ok (.iadd, 1) := by decide +kernel
theorem dX4_pathOf_56 : decode cX4_pathOf 56 = .ok (.istore_n 3, 1) := by decide +kernel
theorem dX4_pathOf_57 : decode cX4_pathOf 57 = .ok (.iinc 4 (-1), 3) := by decide +kernel
theorem dX4_pathOf_60 : decode cX4_pathOf 60 = .ok (.goto (-26), 3) := by decide +kernel
theorem dX4_pathOf_63 : decode cX4_pathOf 63 = .ok (.iload_n 3, 1) := by decide +kernel
theorem dX4_pathOf_64 : decode cX4_pathOf 64 = .ok (.ireturn, 1) := by decide +kernel
theorem dX4_begins_0 : decode cX4_begins 0 = .ok (.iload_n 0, 1) := by decide +kernel
theorem dX4_begins_1 : decode cX4_begins 1 = .ok (.invokestatic 56, 3) := by decide +kernel
theorem dX4_begins_4 : decode cX4_begins 4 = .ok (.iload_n 1, 1) := by decide +kernel
theorem dX4_begins_5 : decode cX4_begins 5 = .ok (.invokestatic 56, 3) := by decide +kernel
theorem dX4_begins_8 : decode cX4_begins 8 = .ok (.isub, 1) := by decide +kernel
theorem dX4_begins_9 : decode cX4_begins 9 = .ok (.istore_n 2, 1) := by decide +kernel
theorem dX4_begins_10 : decode cX4_begins 10 = .ok (.iload_n 2, 1) := by decide +kernel
theorem dX4_begins_11 : decode cX4_begins 11 = .ok (.ifCond .lt 19, 3) := by decide +kernel
theorem dX4_begins_14 : decode cX4_begins 14 = .ok (.iload_n 0, 1) := by decide +kernel
theorem dX4_begins_15 : decode cX4_begins 15 = .ok (.bipush 10, 2) := by decide +kernel
theorem dX4_begins_17 : decode cX4_begins 17 = .ok (.iload_n 2, 1) := by decide +kernel
theorem dX4_begins_18 : decode cX4_begins 18 = .ok (.invokestatic 60, 3) := by decide +kernel
theorem dX4_begins_21 : decode cX4_begins 21 = .ok (.idiv, 1) := by decide +kernel
theorem dX4_begins_22 : decode cX4_begins 22 = .ok (.iload_n 1, 1) := by decide +kernel
theorem dX4_begins_23 : decode cX4_begins 23 = .ok (.if_icmp .ne 7, 3) := by decide +kernel
theorem dX4_begins_26 : decode cX4_begins 26 = .ok (.iconst 1, 1) := by decide +kernel
theorem dX4_begins_27 : decode cX4_begins 27 = .ok (.goto 4, 3) := by decide +kernel
theorem dX4_begins_30 : decode cX4_begins 30 = .ok (.iconst 0, 1) := by decide +kernel
theorem dX4_begins_31 : decode cX4_begins 31 = .ok (.ireturn, 1) := by decide +kernel
theorem dX4_rest_0 : decode cX4_rest 0 = .ok (.iload_n 0, 1) := by decide +kernel
theorem dX4_rest_1 : decode cX4_rest 1 = .ok (.bipush 10, 2) := by decide +kernel
theorem dX4_rest_3 : decode cX4_rest 3 = .ok (.iload_n 0, 1) := by decide +kernel
theorem dX4_rest_4 : decode cX4_rest 4 = .ok (.invokestatic 56, 3) := by decide +kernel
theorem dX4_rest_7 : decode cX4_rest 7 = .ok (.iload_n 1, 1) := by decide +kernel
theorem dX4_rest_8 : decode cX4_rest 8 = .ok (.invokestatic 56, 3) := by decide +kernel
theorem dX4_rest_11 : decode cX4_rest 11 = .ok (.isub, 1) := by decide +kernel
theorem dX4_rest_12 : decode cX4_rest 12 = .ok (.invokestatic 60, 3) := by decide +kernel
theorem dX4_rest_15 : decode cX4_rest 15 = .ok (.irem, 1) := by decide +kernel
theorem dX4_rest_16 : decode cX4_rest 16 = .ok (.ireturn, 1) := by decide +kernel
theorem dX4_addLayer_0 : decode cX4_addLayer 0 = .ok (.aload_n 0, 1) := by decide +kernel
theorem dX4_addLayer_1 : decode cX4_addLayer 1 = .ok (.aload_n 0, 1) := by decide +kernel
theorem dX4_addLayer_2 : decode cX4_addLayer 2 = .ok (.getfield 64, 3) := by decide +kernel
theorem dX4_addLayer_5 : decode cX4_addLayer 5 = .ok (.bipush 6, 2) := by decide +kernel
theorem dX4_addLayer_7 : decode cX4_addLayer 7 = .ok (.if_icmp .ne 7, 3) := by decide +kernel
theorem dX4_addLayer_10 : decode cX4_addLayer 10 = .ok (.iconst 1, 1) := by decide +kernel
theorem dX4_addLayer_11 : decode cX4_addLayer 11 = .ok (.goto 4, 3) := by decide +kernel
theorem dX4_addLayer_14 : decode cX4_addLayer 14 = .ok (.iconst 0, 1) := by decide +kernel
theorem dX4_addLayer_15 : decode cX4_addLayer 15 = .ok (.putfield 44, 3) := by decide +kernel
theorem dX4_addLayer_18 : decode cX4_addLayer 18 = .ok (.aload_n 0, 1) := by decide +kernel
theorem dX4_addLayer_19 : decode cX4_addLayer 19 = .ok (.getfield 44, 3) := by decide +kernel
theorem dX4_addLayer_22 : decode cX4_addLayer 22 = .ok (.ifCond .le 5, 3) := by decide +kernel
theorem dX4_addLayer_25 : decode cX4_addLayer 25 = .ok (.iconst (-1), 1) := by decide +kernel
theorem dX4_addLayer_26 : decode cX4_addLayer 26 = .ok (.ireturn, 1) := by decide +kernel
theorem dX4_addLayer_27 : decode cX4_addLayer 27 = .ok (.aload_n 0, 1) := by decide +kernel
theorem dX4_addLayer_28 : decode cX4_addLayer 28 = .ok (.dup, 1) := by decide +kernel
theorem dX4_addLayer_29 : decode cX4_addLayer 29 = .ok (.getfield 64, 3) := by decide +kernel
theorem dX4_addLayer_32 : decode cX4_addLayer 32 = .ok (.iconst 1, 1) := by decide +kernel
theorem dX4_addLayer_33 : decode cX4_addLayer 33 = .ok (.iadd, 1) := by decide +kernel
theorem dX4_addLayer_34 : decode cX4_addLayer 34 = .ok (.putfield 64, 3) := by decide +kernel
theorem dX4_addLayer_37 : decode cX4_addLayer 37 = .ok (.aload_n 0, 1) := by decide +kernel
theorem dX4_addLayer_38 : decode cX4_addLayer 38 = .ok (.getfield 64, 3) := by decide +kernel
theorem dX4_addLayer_41 : decode cX4_addLayer 41 = .ok (.iconst 1, 1) := by decide +kernel
theorem dX4_addLayer_42 : decode cX4_addLayer 42 = .ok (.isub, 1) := by decide +kernel
theorem dX4_addLayer_43 : decode cX4_addLayer 43 = .ok (.ireturn, 1) := by decide +kernel
theorem dX4_isLayer_0 : decode cX4_isLayer 0 = .ok (.iload_n 1, 1) := by decide +kernel
theorem dX4_isLayer_1 : decode cX4_isLayer 1 = .ok (.i2l, 1) := by decide +kernel
theorem dX4_isLayer_2 : decode cX4_isLayer 2 = .ok (.lconst 0, 1) := by decide +kernel
theorem dX4_isLayer_3 : decode cX4_isLayer 3 = .ok (.aload_n 0, 1) := by decide +kernel
theorem dX4_isLayer_4 : decode cX4_isLayer 4 = .ok (.getfield 64, 3) := by decide +kernel
theorem dX4_isLayer_7 : decode cX4_isLayer 7 = .ok (.iconst 1, 1) := by decide +kernel
theorem dX4_isLayer_8 : decode cX4_isLayer 8 = .ok (.isub, 1) := by decide +kernel
theorem dX4_isLayer_9 : decode cX4_isLayer 9 = .ok (.i2l, 1) := by decide +kernel
theorem dX4_isLayer_10 : decode cX4_isLayer 10 = .ok (.invokestatic 50, 3) := by decide +kernel
theorem dX4_isLayer_13 : decode cX4_isLayer 13 = .ok (.ireturn, 1) := by decide +kernel
theorem dX4_isUpper_0 : decode cX4_isUpper 0 = .ok (.iconst 0, 1) := by decide +kernel
theorem dX4_isUpper_1 : decode cX4_isUpper 1 = .ok (.istore_n 2, 1) := by decide +kernel
theorem dX4_isUpper_2 : decode cX4_isUpper 2 = .ok (.iconst 0, 1) := by decide +kernel
theorem dX4_isUpper_3 : decode cX4_isUpper 3 = .ok (.istore_n 3, 1) := by decide +kernel
theorem dX4_isUpper_4 : decode cX4_isUpper 4 = .ok (.iload_n 3, 1) := by decide +kernel
theorem dX4_isUpper_5 : decode cX4_isUpper 5 = .ok (.aload_n 0, 1) := by decide +kernel
theorem dX4_isUpper_6 : decode cX4_isUpper 6 = .ok (.getfield 67, 3) := by decide +kernel
theorem dX4_isUpper_9 : decode cX4_isUpper 9 = .ok (.if_icmp .ge 38, 3) := by decide +kernel
theorem dX4_isUpper_12 : decode cX4_isUpper 12 = .ok (.iload_n 2, 1) := by decide +kernel
theorem dX4_isUpper_13 : decode cX4_isUpper 13 = .ok (.ifCond .ne 22, 3) := by decide +kernel
theorem dX4_isUpper_16 : decode cX4_isUpper 16 = .ok (.aload_n 0, 1) := by decide +kernel
theorem dX4_isUpper_17 : decode cX4_isUpper 17 = .ok (.getfield 28, 3) := by decide +kernel
theorem dX4_isUpper_20 : decode cX4_isUpper 20 = .ok (.iload_n 3, 1) := by decide +kernel
theorem dX4_isUpper_21 : decode cX4_isUpper 21 = .ok (.baload, 1) := by decide +kernel
theorem dX4_isUpper_22 : decode cX4_isUpper 22 = .ok (.ifCond .eq 17, 3) := by decide +kernel
theorem dX4_isUpper_25 : decode cX4_isUpper 25 = .ok (.aload_n 0, 1) := by decide +kernel
theorem dX4_isUpper_26 : decode cX4_isUpper 26 = .ok (.getfield 25, 3) := by decide +kernel
theorem dX4_isUpper_29 : decode cX4_isUpper 29 = .ok (.iload_n 3, 1) := by decide +kernel
theorem dX4_isUpper_30 : decode cX4_isUpper 30 = .ok (.iaload, 1) := by decide +kernel
theorem dX4_isUpper_31 : decode cX4_isUpper 31 = .ok (.iload_n 1, 1) := by decide +kernel
theorem dX4_isUpper_32 : decode cX4_isUpper 32 = .ok (.if_icmp .ne 7, 3) := by decide +kernel
theorem dX4_isUpper_35 : decode cX4_isUpper 35 = .ok (.iconst 1, 1) := by decide +kernel
theorem dX4_isUpper_36 : decode cX4_isUpper 36 = .ok (.goto 4, 3) := by decide +kernel
theorem dX4_isUpper_39 : decode cX4_isUpper 39 = .ok (.iconst 0, 1) := by decide +kernel
theorem dX4_isUpper_40 : decode cX4_isUpper 40 = .ok (.istore_n 2, 1) := by decide +kernel
theorem dX4_isUpper_41 : decode cX4_isUpper 41 = .ok (.iinc 3 1, 3) := by decide +kernel
theorem dX4_isUpper_44 : decode cX4_isUpper 44 = .ok (.goto (-40), 3) := by decide +kernel
theorem dX4_isUpper_47 : decode cX4_isUpper 47 = .ok (.iload_n 2, 1) := by decide +kernel
theorem dX4_isUpper_48 : decode cX4_isUpper 48 = .ok (.ireturn, 1) := by decide +kernel
theorem dX4_isUsed_0 : decode cX4_isUsed 0 = .ok (.iconst 0, 1) := by decide +kernel
theorem dX4_isUsed_1 : decode cX4_isUsed 1 = .ok (.istore_n 2, 1) := by decide +kernel
theorem dX4_isUsed_2 : decode cX4_isUsed 2 = .ok (.iconst 0, 1) := by decide +kernel
theorem dX4_isUsed_3 : decode cX4_isUsed 3 = .ok (.istore_n 3, 1) := by decide +kernel
theorem dX4_isUsed_4 : decode cX4_isUsed 4 = .ok (.iload_n 3, 1) := by decide +kernel
theorem dX4_isUsed_5 : decode cX4_isUsed 5 = .ok (.aload_n 0, 1) := by decide +kernel
theorem dX4_isUsed_6 : decode cX4_isUsed 6 = .ok (.getfield 67, 3) := by decide +kernel
theorem dX4_isUsed_9 : decode cX4_isUsed 9 = .ok (.if_icmp .ge 48, 3) := by decide +kernel
theorem dX4_isUsed_12 : decode cX4_isUsed 12 = .ok (.iload_n 2, 1) := by decide +kernel
theorem dX4_isUsed_13 : decode cX4_isUsed 13 = .ok (.ifCond .ne 32, 3) := by decide +kernel
theorem dX4_isUsed_16 : decode cX4_isUsed 16 = .ok (.aload_n 0, 1) := by decide +kernel
theorem dX4_isUsed_17 : decode cX4_isUsed 17 = .ok (.getfield 28, 3) := by decide +kernel
theorem dX4_isUsed_20 : decode cX4_isUsed 20 = .ok (.iload_n 3, 1) := by decide +kernel
theorem dX4_isUsed_21 : decode cX4_isUsed 21 = .ok (.baload, 1) := by decide +kernel
theorem dX4_isUsed_22 : decode cX4_isUsed 22 = .ok (.ifCond .eq 27, 3) := by decide +kernel
theorem dX4_isUsed_25 : decode cX4_isUsed 25 = .ok (.aload_n 0, 1) := by decide +kernel
theorem dX4_isUsed_26 : decode cX4_isUsed 26 = .ok (.getfield 25, 3) := by decide +kernel
theorem dX4_isUsed_29 : decode cX4_isUsed 29 = .ok (.iload_n 3, 1) := by decide +kernel
theorem dX4_isUsed_30 : decode cX4_isUsed 30 = .ok (.iaload, 1) := by decide +kernel
theorem dX4_isUsed_31 : decode cX4_isUsed 31 = .ok (.iload_n 1, 1) := by decide +kernel
theorem dX4_isUsed_32 : decode cX4_isUsed 32 = .ok (.if_icmp .eq 13, 3) := by decide +kernel
theorem dX4_isUsed_35 : decode cX4_isUsed 35 = .ok (.aload_n 0, 1) := by decide +kernel
theorem dX4_isUsed_36 : decode cX4_isUsed 36 = .ok (.getfield 22, 3) := by decide +kernel
theorem dX4_isUsed_39 : decode cX4_isUsed 39 = .ok (.iload_n 3, 1) := by decide +kernel
theorem dX4_isUsed_40 : decode cX4_isUsed 40 = .ok (.iaload, 1) := by decide +kernel
theorem dX4_isUsed_41 : decode cX4_isUsed 41 = .ok (.iload_n 1, 1) := by decide +kernel
theorem dX4_isUsed_42 : decode cX4_isUsed 42 = .ok (.if_icmp .ne 7, 3) := by decide +kernel
theorem dX4_isUsed_45 : decode cX4_isUsed 45 = .ok (.iconst 1, 1) := by decide +kernel
theorem dX4_isUsed_46 : decode cX4_isUsed 46 = .ok (.goto 4, 3) := by decide +kernel
theorem dX4_isUsed_49 : decode cX4_isUsed 49 = .ok (.iconst 0, 1) := by decide +kernel
theorem dX4_isUsed_50 : decode cX4_isUsed 50 = .ok (.istore_n 2, 1) := by decide +kernel
theorem dX4_isUsed_51 : decode cX4_isUsed 51 = .ok (.iinc 3 1, 3) := by decide +kernel
theorem dX4_isUsed_54 : decode cX4_isUsed 54 = .ok (.goto (-50), 3) := by decide +kernel
theorem dX4_isUsed_57 : decode cX4_isUsed 57 = .ok (.iload_n 2, 1) := by decide +kernel
theorem dX4_isUsed_58 : decode cX4_isUsed 58 = .ok (.ireturn, 1) := by decide +kernel
theorem dX4_mount_0 : decode cX4_mount 0 = .ok (.iload_n 1, 1) := by decide +kernel
theorem dX4_mount_1 : decode cX4_mount 1 = .ok (.invokestatic 70, 3) := by decide +kernel
theorem dX4_mount_4 : decode cX4_mount 4 = .ok (.ifCond .eq 8, 3) := by decide +kernel
theorem dX4_mount_7 : decode cX4_mount 7 = .ok (.iload_n 2, 1) := by decide +kernel
theorem dX4_mount_8 : decode cX4_mount 8 = .ok (.iload_n 3, 1) := by decide +kernel
theorem dX4_mount_9 : decode cX4_mount 9 = .ok (.if_icmp .ne 10, 3) := by decide +kernel
theorem dX4_mount_12 : decode cX4_mount 12 = .ok (.aload_n 0, 1) := by decide +kernel
theorem dX4_mount_13 : decode cX4_mount 13 = .ok (.iconst 1, 1) := by decide +kernel
theorem dX4_mount_14 : decode cX4_mount 14 = .ok (.putfield 44, 3) := by decide +kernel
theorem dX4_mount_17 : decode cX4_mount 17 = .ok (.iconst (-1), 1) := by decide +kernel
theorem dX4_mount_18 : decode cX4_mount 18 = .ok (.ireturn, 1) := by decide +kernel
theorem dX4_mount_19 : decode cX4_mount 19 = .ok (.aload_n 0, 1) := by decide +kernel
theorem dX4_mount_20 : decode cX4_mount 20 = .ok (.iload_n 2, 1) := by decide +kernel
theorem dX4_mount_21 : decode cX4_mount 21 = .ok (.invokevirtual 74, 3) := by decide +kernel
theorem dX4_mount_24 : decode cX4_mount 24 = .ok (.ifCond .eq 16, 3) := by decide +kernel
theorem dX4_mount_27 : decode cX4_mount 27 = .ok (.iload_n 3, 1) := by decide +kernel
theorem dX4_mount_28 : decode cX4_mount 28 = .ok (.iconst (-1), 1) := by decide +kernel
theorem dX4_mount_29 : decode cX4_mount 29 = .ok (.if_icmp .eq 18, 3) := by decide +kernel
theorem dX4_mount_32 : decode cX4_mount 32 = .ok (.aload_n 0, 1) := by decide +kernel
theorem dX4_mount_33 : decode cX4_mount 33 = .ok (.iload_n 3, 1) := by decide +kernel
theorem dX4_mount_34 : decode cX4_mount 34 = .ok (.invokevirtual 74, 3) := by decide +kernel
theorem dX4_mount_37 : decode cX4_mount 37 = .ok (.ifCond .ne 10, 3) := by decide +kernel
theorem dX4_mount_40 : decode cX4_mount 40 = .ok (.aload_n 0, 1) := by decide +kernel
theorem dX4_mount_41 : decode cX4_mount 41 = .ok (.iconst 2, 1) := by decide +kernel
theorem dX4_mount_42 : decode cX4_mount 42 = .ok (.putfield 44, 3) := by decide +kernel
theorem dX4_mount_45 : decode cX4_mount 45 = .ok (.iconst (-1), 1) := by decide +kernel
theorem dX4_mount_46 : decode cX4_mount 46 = .ok (.ireturn, 1) := by decide +kernel
theorem dX4_mount_47 : decode cX4_mount 47 = .ok (.aload_n 0, 1) := by decide +kernel
theorem dX4_mount_48 : decode cX4_mount 48 = .ok (.iload_n 2, 1) := by decide +kernel
theorem dX4_mount_49 : decode cX4_mount 49 = .ok (.invokevirtual 77, 3) := by decide +kernel
theorem dX4_mount_52 : decode cX4_mount 52 = .ok (.ifCond .ne 16, 3) := by decide +kernel
theorem dX4_mount_55 : decode cX4_mount 55 = .ok (.iload_n 3, 1) := by decide +kernel
theorem dX4_mount_56 : decode cX4_mount 56 = .ok (.iconst (-1), 1) := by decide +kernel
theorem dX4_mount_57 : decode cX4_mount 57 = .ok (.if_icmp .eq 15, 3) := by decide +kernel
theorem dX4_mount_60 : decode cX4_mount 60 = .ok (.aload_n 0, 1) := by decide +kernel
theorem dX4_mount_61 : decode cX4_mount 61 = .ok (.iload_n 3, 1) := by decide +kernel
theorem dX4_mount_62 : decode cX4_mount 62 = .ok (.invokevirtual 80, 3) := by decide +kernel
theorem dX4_mount_65 : decode cX4_mount 65 = .ok (.ifCond .eq 7, 3) := by decide +kernel
theorem dX4_mount_68 : decode cX4_mount 68 = .ok (.iconst 1, 1) := by decide +kernel
theorem dX4_mount_69 : decode cX4_mount 69 = .ok (.goto 4, 3) := by decide +kernel
theorem dX4_mount_72 : decode cX4_mount 72 = .ok (.iconst 0, 1) := by decide +kernel
theorem dX4_mount_73 : decode cX4_mount 73 = .ok (.istore 4, 2) := by decide +kernel
theorem dX4_mount_75 : decode cX4_mount 75 = .ok (.aload_n 0, 1) := by decide +kernel
theorem dX4_mount_76 : decode cX4_mount 76 = .ok (.iload 4, 2) := by decide +kernel
theorem dX4_mount_78 : decode cX4_mount 78 = .ok (.ifCond .eq 7, 3) := by decide +kernel
theorem dX4_mount_81 : decode cX4_mount 81 = .ok (.iconst 3, 1) := by decide +kernel
theorem dX4_mount_82 : decode cX4_mount 82 = .ok (.goto 17, 3) := by decide +kernel
theorem dX4_mount_85 : decode cX4_mount 85 = .ok (.aload_n 0, 1) := by decide +kernel
theorem dX4_mount_86 : decode cX4_mount 86 = .ok (.getfield 67, 3) := by decide +kernel
theorem dX4_mount_89 : decode cX4_mount 89 = .ok (.bipush 8, 2) := by decide +kernel
theorem dX4_mount_91 : decode cX4_mount 91 = .ok (.if_icmp .ne 7, 3) := by decide +kernel
theorem dX4_mount_94 : decode cX4_mount 94 = .ok (.iconst 4, 1) := by decide +kernel
theorem dX4_mount_95 : decode cX4_mount 95 = .ok (.goto 4, 3) := by decide +kernel
theorem dX4_mount_98 : decode cX4_mount 98 = .ok (.iconst 0, 1) := by decide +kernel
theorem dX4_mount_99 : decode cX4_mount 99 = .ok (.putfield 44, 3) := by decide +kernel
theorem dX4_mount_102 : decode cX4_mount 102 = .ok (.aload_n 0, 1) := by decide +kernel
theorem dX4_mount_103 : decode cX4_mount 103 = .ok (.getfield 44, 3) := by decide +kernel
theorem dX4_mount_106 : decode cX4_mount 106 = .ok (.ifCond .le 5, 3) := by decide +kernel
theorem dX4_mount_109 : decode cX4_mount 109 = .ok (.iconst (-1), 1) := by decide +kernel
theorem dX4_mount_110 : decode cX4_mount 110 = .ok (.ireturn, 1) := by decide +kernel
theorem dX4_mount_111 : decode cX4_mount 111 = .ok (.aload_n 0, 1) := by decide +kernel
theorem dX4_mount_112 : decode cX4_mount 112 = .ok (.getfield 19, 3) := by decide +kernel
theorem dX4_mount_115 : decode cX4_mount 115 = .ok (.aload_n 0, 1) := by decide +kernel
theorem dX4_mount_116 : decode cX4_mount 116 = .ok (.getfield 67, 3) := by decide +kernel
theorem dX4_mount_119 : decode cX4_mount 119 = .ok (.iload_n 1, 1) := by decide +kernel
theorem dX4_mount_120 : decode cX4_mount 120 = .ok (.iastore, 1) := by decide +kernel
theorem dX4_mount_121 : decode cX4_mount 121 = .ok (.aload_n 0, 1) := by decide +kernel
theorem dX4_mount_122 : decode cX4_mount 122 = .ok (.getfield 22, 3) := by decide +kernel
theorem dX4_mount_125 : decode cX4_mount 125 = .ok (.aload_n 0, 1) := by decide +kernel
theorem dX4_mount_126 : decode cX4_mount 126 = .ok (.getfield 67, 3) := by decide +kernel
theorem dX4_mount_129 : decode cX4_mount 129 = .ok (.iload_n 2, 1) := by decide +kernel
theorem dX4_mount_130 : decode cX4_mount 130 = .ok (.iastore, 1) := by decide +kernel
theorem dX4_mount_131 : decode cX4_mount 131 = .ok (.aload_n 0, 1) := by decide +kernel
theorem dX4_mount_132 : decode cX4_mount 132 = .ok (.getfield 25, 3) := by decide +kernel
theorem dX4_mount_135 : decode cX4_mount 135 = .ok (.aload_n 0, 1) := by decide +kernel
theorem dX4_mount_136 : decode cX4_mount 136 = .ok (.getfield 67, 3) := by decide +kernel
theorem dX4_mount_139 : decode cX4_mount 139 = .ok (.iload_n 3, 1) := by decide +kernel
theorem dX4_mount_140 : decode cX4_mount 140 = .ok (.iastore, 1) := by decide +kernel
theorem dX4_mount_141 : decode cX4_mount 141 = .ok (.aload_n 0, 1) := by decide +kernel
theorem dX4_mount_142 : decode cX4_mount 142 = .ok (.getfield 28, 3) := by decide +kernel
theorem dX4_mount_145 : decode cX4_mount 145 = .ok (.aload_n 0, 1) := by decide +kernel
theorem dX4_mount_146 : decode cX4_mount 146 = .ok (.getfield 67, 3) := by decide +kernel
theorem dX4_mount_149 : decode cX4_mount 149 = .ok (.iconst 1, 1) := by decide +kernel
theorem dX4_mount_150 : decode cX4_mount 150 = .ok (.bastore, 1) := by decide +kernel
theorem dX4_mount_151 : decode cX4_mount 151 = .ok (.aload_n 0, 1) := by decide +kernel
theorem dX4_mount_152 : decode cX4_mount 152 = .ok (.getfield 32, 3) := by decide +kernel
theorem dX4_mount_155 : decode cX4_mount 155 = .ok (.aload_n 0, 1) := by decide +kernel
theorem dX4_mount_156 : decode cX4_mount 156 = .ok (.getfield 67, 3) := by decide +kernel
theorem dX4_mount_159 : decode cX4_mount 159 = .ok (.iconst 0, 1) := by decide +kernel
theorem dX4_mount_160 : decode cX4_mount 160 = .ok (.bastore, 1) := by decide +kernel
theorem dX4_mount_161 : decode cX4_mount 161 = .ok (.aload_n 0, 1) := by decide +kernel
theorem dX4_mount_162 : decode cX4_mount 162 = .ok (.dup, 1) := by decide +kernel
theorem dX4_mount_163 : decode cX4_mount 163 = .ok (.getfield 67, 3) := by decide +kernel
theorem dX4_mount_166 : decode cX4_mount 166 = .ok (.iconst 1, 1) := by decide +kernel
theorem dX4_mount_167 : decode cX4_mount 167 = .ok (.iadd, 1) := by decide +kernel
theorem dX4_mount_168 : decode cX4_mount 168 = .ok (.putfield 67, 3) := by decide +kernel
theorem dX4_mount_171 : decode cX4_mount 171 = .ok (.aload_n 0, 1) := by decide +kernel
theorem dX4_mount_172 : decode cX4_mount 172 = .ok (.getfield 67, 3) := by decide +kernel
theorem dX4_mount_175 : decode cX4_mount 175 = .ok (.iconst 1, 1) := by decide +kernel
theorem dX4_mount_176 : decode cX4_mount 176 = .ok (.isub, 1) := by decide +kernel
theorem dX4_mount_177 : decode cX4_mount 177 = .ok (.ireturn, 1) := by decide +kernel
theorem dX4_isMount_0 : decode cX4_isMount 0 = .ok (.iload_n 1, 1) := by decide +kernel
theorem dX4_isMount_1 : decode cX4_isMount 1 = .ok (.i2l, 1) := by decide +kernel
theorem dX4_isMount_2 : decode cX4_isMount 2 = .ok (.lconst 0, 1) := by decide +kernel
theorem dX4_isMount_3 : decode cX4_isMount 3 = .ok (.aload_n 0, 1) := by decide +kernel
theorem dX4_isMount_4 : decode cX4_isMount 4 = .ok (.getfield 67, 3) := by decide +kernel
theorem dX4_isMount_7 : decode cX4_isMount 7 = .ok (.iconst 1, 1) := by decide +kernel
theorem dX4_isMount_8 : decode cX4_isMount 8 = .ok (.isub, 1) := by decide +kernel
theorem dX4_isMount_9 : decode cX4_isMount 9 = .ok (.i2l, 1) := by decide +kernel
theorem dX4_isMount_10 : decode cX4_isMount 10 = .ok (.invokestatic 50, 3) := by decide +kernel
theorem dX4_isMount_13 : decode cX4_isMount 13 = .ok (.ifCond .eq 16, 3) := by decide +kernel
theorem dX4_isMount_16 : decode cX4_isMount 16 = .ok (.aload_n 0, 1) := by decide +kernel
theorem dX4_isMount_17 : decode cX4_isMount 17 = .ok (.getfield 28, 3) := by decide +kernel
theorem dX4_isMount_20 : decode cX4_isMount 20 = .ok (.iload_n 1, 1) := by decide +kernel
theorem dX4_isMount_21 : decode cX4_isMount 21 = .ok (.baload, 1) := by decide +kernel
theorem dX4_isMount_22 : decode cX4_isMount 22 = .ok (.ifCond .eq 7, 3) := by decide +kernel
theorem dX4_isMount_25 : decode cX4_isMount 25 = .ok (.iconst 1, 1) := by decide +kernel
theorem dX4_isMount_26 : decode cX4_isMount 26 = .ok (.goto 4, 3) := by decide +kernel
theorem dX4_isMount_29 : decode cX4_isMount 29 = .ok (.iconst 0, 1) := by decide +kernel
theorem dX4_isMount_30 : decode cX4_isMount 30 = .ok (.ireturn, 1) := by decide +kernel
theorem dX4_unmount_0 : decode cX4_unmount 0 = .ok (.aload_n 0, 1) := by decide +kernel
theorem dX4_unmount_1 : decode cX4_unmount 1 = .ok (.aload_n 0, 1) := by decide +kernel
theorem dX4_unmount_2 : decode cX4_unmount 2 = .ok (.iload_n 1, 1) := by decide +kernel
theorem dX4_unmount_3 : decode cX4_unmount 3 = .ok (.invokevirtual 83, 3) := by decide +kernel
theorem dX4_unmount_6 : decode cX4_unmount 6 = .ok (.ifCond .eq 7, 3) := by decide +kernel
theorem dX4_unmount_9 : decode cX4_unmount 9 = .ok (.iconst 0, 1) := by decide +kernel
theorem dX4_unmount_10 : decode cX4_unmount 10 = .ok (.goto 4, 3) := by decide +kernel
theorem dX4_unmount_13 : decode cX4_unmount 13 = .ok (.iconst 1, 1) := by decide +kernel
theorem dX4_unmount_14 : decode cX4_unmount 14 = .ok (.putfield 44, 3) := by decide +kernel
theorem dX4_unmount_17 : decode cX4_unmount 17 = .ok (.aload_n 0, 1) := by decide +kernel
theorem dX4_unmount_18 : decode cX4_unmount 18 = .ok (.getfield 44, 3) := by decide +kernel
theorem dX4_unmount_21 : decode cX4_unmount 21 = .ok (.ifCond .le 5, 3) := by decide +kernel
theorem dX4_unmount_24 : decode cX4_unmount 24 = .ok (.iconst (-1), 1) := by decide +kernel
theorem dX4_unmount_25 : decode cX4_unmount 25 = .ok (.ireturn, 1) := by decide +kernel
theorem dX4_unmount_26 : decode cX4_unmount 26 = .ok (.aload_n 0, 1) := by decide +kernel
theorem dX4_unmount_27 : decode cX4_unmount 27 = .ok (.getfield 28, 3) := by decide +kernel
theorem dX4_unmount_30 : decode cX4_unmount 30 = .ok (.iload_n 1, 1) := by decide +kernel
theorem dX4_unmount_31 : decode cX4_unmount 31 = .ok (.iconst 0, 1) := by decide +kernel
theorem dX4_unmount_32 : decode cX4_unmount 32 = .ok (.bastore, 1) := by decide +kernel
theorem dX4_unmount_33 : decode cX4_unmount 33 = .ok (.iconst 0, 1) := by decide +kernel
theorem dX4_unmount_34 : decode cX4_unmount 34 = .ok (.istore_n 2, 1) := by decide +kernel
theorem dX4_unmount_35 : decode cX4_unmount 35 = .ok (.iconst 0, 1) := by decide +kernel
theorem dX4_unmount_36 : decode cX4_unmount 36 = .ok (.istore_n 3, 1) := by decide +kernel
theorem dX4_unmount_37 : decode cX4_unmount 37 = .ok (.iload_n 3, 1) := by decide +kernel
theorem dX4_unmount_38 : decode cX4_unmount 38 = .ok (.aload_n 0, 1) := by decide +kernel
theorem dX4_unmount_39 : decode cX4_unmount 39 = .ok (.getfield 67, 3) := by decide +kernel
theorem dX4_unmount_42 : decode cX4_unmount 42 = .ok (.if_icmp .ge 26, 3) := by decide +kernel
theorem dX4_unmount_45 : decode cX4_unmount 45 = .ok (.iload_n 2, 1) := by decide +kernel
theorem dX4_unmount_46 : decode cX4_unmount 46 = .ok (.aload_n 0, 1) := by decide +kernel
theorem dX4_unmount_47 : decode cX4_unmount 47 = .ok (.getfield 28, 3) := by decide +kernel
theorem dX4_unmount_50 : decode cX4_unmount 50 = .ok (.iload_n 3, 1) := by decide +kernel
theorem dX4_unmount_51 : decode cX4_unmount 51 = .ok (.baload, 1) := by decide +kernel
theorem dX4_unmount_52 : decode cX4_unmount 52 = .ok (.ifCond .eq 7, 3) := by decide +kernel
theorem dX4_unmount_55 : decode cX4_unmount 55 = .ok (.iconst 1, 1) := by decide +kernel
theorem dX4_unmount_56 : decode cX4_unmount 56 = .ok (.goto 4, 3) := by decide +kernel
theorem dX4_unmount_59 : decode cX4_unmount 59 = .ok (.iconst 0, 1) := by decide +kernel
theorem dX4_unmount_60 : decode cX4_unmount 60 = .ok (.iadd, 1) := by decide +kernel
theorem dX4_unmount_61 : decode cX4_unmount 61 = .ok (.istore_n 2, 1) := by decide +kernel
theorem dX4_unmount_62 : decode cX4_unmount 62 = .ok (.iinc 3 1, 3) := by decide +kernel
theorem dX4_unmount_65 : decode cX4_unmount 65 = .ok (.goto (-28), 3) := by decide +kernel
theorem dX4_unmount_68 : decode cX4_unmount 68 = .ok (.iload_n 2, 1) := by decide +kernel
theorem dX4_unmount_69 : decode cX4_unmount 69 = .ok (.ireturn, 1) := by decide +kernel
theorem dX4_move_0 : decode cX4_move 0 = .ok (.aload_n 0, 1) := by decide +kernel
theorem dX4_move_1 : decode cX4_move 1 = .ok (.aload_n 0, 1) := by decide +kernel
theorem dX4_move_2 : decode cX4_move 2 = .ok (.iload_n 1, 1) := by decide +kernel
theorem dX4_move_3 : decode cX4_move 3 = .ok (.invokevirtual 83, 3) := by decide +kernel
theorem dX4_move_6 : decode cX4_move 6 = .ok (.ifCond .ne 7, 3) := by decide +kernel
theorem dX4_move_9 : decode cX4_move 9 = .ok (.iconst 1, 1) := by decide +kernel
theorem dX4_move_10 : decode cX4_move 10 = .ok (.goto 15, 3) := by decide +kernel
theorem dX4_move_13 : decode cX4_move 13 = .ok (.iload_n 2, 1) := by decide +kernel
theorem dX4_move_14 : decode cX4_move 14 = .ok (.invokestatic 70, 3) := by decide +kernel
theorem dX4_move_17 : decode cX4_move 17 = .ok (.ifCond .ne 7, 3) := by decide +kernel
theorem dX4_move_20 : decode cX4_move 20 = .ok (.iconst 2, 1) := by decide +kernel
theorem dX4_move_21 : decode cX4_move 21 = .ok (.goto 4, 3) := by decide +kernel
theorem dX4_move_24 : decode cX4_move 24 = .ok (.iconst 0, 1) := by decide +kernel
theorem dX4_move_25 : decode cX4_move 25 = .ok (.putfield 44, 3) := by decide +kernel
theorem dX4_move_28 : decode cX4_move 28 = .ok (.aload_n 0, 1) := by decide +kernel
theorem dX4_move_29 : decode cX4_move 29 = .ok (.getfield 44, 3) := by decide +kernel
theorem dX4_move_32 : decode cX4_move 32 = .ok (.ifCond .le 5, 3) := by decide +kernel
theorem dX4_move_35 : decode cX4_move 35 = .ok (.iconst (-1), 1) := by decide +kernel
theorem dX4_move_36 : decode cX4_move 36 = .ok (.ireturn, 1) := by decide +kernel
theorem dX4_move_37 : decode cX4_move 37 = .ok (.aload_n 0, 1) := by decide +kernel
theorem dX4_move_38 : decode cX4_move 38 = .ok (.getfield 19, 3) := by decide +kernel
theorem dX4_move_41 : decode cX4_move 41 = .ok (.iload_n 1, 1) := by decide +kernel
theorem dX4_move_42 : decode cX4_move 42 = .ok (.iaload, 1) := by decide +kernel
theorem dX4_move_43 : decode cX4_move 43 = .ok (.istore_n 3, 1) := by decide +kernel
theorem dX4_move_44 : decode cX4_move 44 = .ok (.aload_n 0, 1) := by decide +kernel
theorem dX4_move_45 : decode cX4_move 45 = .ok (.getfield 19, 3) := by decide +kernel
theorem dX4_move_48 : decode cX4_move 48 = .ok (.iload_n 1, 1) := by decide +kernel
theorem dX4_move_49 : decode cX4_move 49 = .ok (.iload_n 2, 1) := by decide +kernel
theorem dX4_move_50 : decode cX4_move 50 = .ok (.iastore, 1) := by decide +kernel
theorem dX4_move_51 : decode cX4_move 51 = .ok (.iload_n 3, 1) := by decide +kernel
theorem dX4_move_52 : decode cX4_move 52 = .ok (.ireturn, 1) := by decide +kernel
theorem dX4_setCrossing_0 : decode cX4_setCrossing 0 = .ok (.aload_n 0, 1) := by decide +kernel
theorem dX4_setCrossing_1 : decode cX4_setCrossing 1 = .ok (.aload_n 0, 1) := by decide +kernel
theorem dX4_setCrossing_2 : decode cX4_setCrossing 2 = .ok (.iload_n 1, 1) := by decide +kernel
theorem dX4_setCrossing_3 : decode cX4_setCrossing 3 = .ok (.invokevirtual 83, 3) := by decide +kernel
theorem dX4_setCrossing_6 : decode cX4_setCrossing 6 = .ok (.ifCond .eq 7, 3) := by decide +kernel
theorem dX4_setCrossing_9 : decode cX4_setCrossing 9 = .ok (.iconst 0, 1) := by decide +kernel
theorem dX4_setCrossing_10 : decode cX4_setCrossing 10 = .ok (.goto 4, 3) := by decide +kernel
theorem dX4_setCrossing_13 : decode cX4_setCrossing 13 = .ok (.iconst 1, 1) := by decide +kernel
theorem dX4_setCrossing_14 : decode cX4_setCrossing 14 = .ok (.putfield 44, 3) := by decide +kernel
theorem dX4_setCrossing_17 : decode cX4_setCrossing 17 = .ok (.aload_n 0, 1) := by decide +kernel
theorem dX4_setCrossing_18 : decode cX4_setCrossing 18 = .ok (.getfield 44, 3) := by decide +kernel
theorem dX4_setCrossing_21 : decode cX4_setCrossing 21 = .ok (.ifCond .le 5, 3) := by decide +kernel
theorem dX4_setCrossing_24 : decode cX4_setCrossing 24 = .ok (.iconst 0, 1) := by decide +kernel
theorem dX4_setCrossing_25 : decode cX4_setCrossing 25 = .ok (.ireturn, 1) := by decide +kernel
theorem dX4_setCrossing_26 : decode cX4_setCrossing 26 = .ok (.aload_n 0, 1) := by decide +kernel
theorem dX4_setCrossing_27 : decode cX4_setCrossing 27 = .ok (.getfield 32, 3) := by decide +kernel
theorem dX4_setCrossing_30 : decode cX4_setCrossing 30 = .ok (.iload_n 1, 1) := by decide +kernel
theorem dX4_setCrossing_31 : decode cX4_setCrossing 31 = .ok (.baload, 1) := by decide +kernel
theorem dX4_setCrossing_32 : decode cX4_setCrossing 32 = .ok (.istore_n 3, 1) := by decide +kernel
theorem dX4_setCrossing_33 : decode cX4_setCrossing 33 = .ok (.aload_n 0, 1) := by decide +kernel
theorem dX4_setCrossing_34 : decode cX4_setCrossing 34 = .ok (.getfield 32, 3) := by decide +kernel
theorem dX4_setCrossing_37 : decode cX4_setCrossing 37 = .ok (.iload_n 1, 1) := by decide +kernel
theorem dX4_setCrossing_38 : decode cX4_setCrossing 38 = .ok (.iload_n 2, 1) := by decide +kernel
theorem dX4_setCrossing_39 : decode cX4_setCrossing 39 = .ok (.bastore, 1) := by decide +kernel
theorem dX4_setCrossing_40 : decode cX4_setCrossing 40 = .ok (.iload_n 3, 1) := by decide +kernel
theorem dX4_setCrossing_41 : decode cX4_setCrossing 41 = .ok (.ireturn, 1) := by decide +kernel
theorem dX4_servedBy_0 : decode cX4_servedBy 0 = .ok (.iconst (-1), 1) := by decide +kernel
theorem dX4_servedBy_1 : decode cX4_servedBy 1 = .ok (.istore_n 2, 1) := by decide +kernel
theorem dX4_servedBy_2 : decode cX4_servedBy 2 = .ok (.iconst 0, 1) := by decide +kernel
theorem dX4_servedBy_3 : decode cX4_servedBy 3 = .ok (.istore_n 3, 1) := by decide +kernel
theorem dX4_servedBy_4 : decode cX4_servedBy 4 = .ok (.iload_n 3, 1) := by decide +kernel
theorem dX4_servedBy_5 : decode cX4_servedBy 5 = .ok (.aload_n 0, 1) := by decide +kernel
theorem dX4_servedBy_6 : decode cX4_servedBy 6 = .ok (.getfield 67, 3) := by decide +kernel
theorem dX4_servedBy_9 : decode cX4_servedBy 9 = .ok (.if_icmp .ge 37, 3) := by decide +kernel
theorem dX4_servedBy_12 : decode cX4_servedBy 12 = .ok (.aload_n 0, 1) := by decide +kernel
theorem dX4_servedBy_13 : decode cX4_servedBy 13 = .ok (.getfield 28, 3) := by decide +kernel
theorem dX4_servedBy_16 : decode cX4_servedBy 16 = .ok (.iload_n 3, 1) := by decide +kernel
theorem dX4_servedBy_17 : decode cX4_servedBy 17 = .ok (.baload, 1) := by decide +kernel
theorem dX4_servedBy_18 : decode cX4_servedBy 18 = .ok (.ifCond .eq 20, 3) := by decide +kernel
theorem dX4_servedBy_21 : decode cX4_servedBy 21 = .ok (.iload_n 1, 1) := by decide +kernel
theorem dX4_servedBy_22 : decode cX4_servedBy 22 = .ok (.aload_n 0, 1) := by decide +kernel
theorem dX4_servedBy_23 : decode cX4_servedBy 23 = .ok (.getfield 19, 3) := by decide +kernel
theorem dX4_servedBy_26 : decode cX4_servedBy 26 = .ok (.iload_n 3, 1) := by decide +kernel
theorem dX4_servedBy_27 : decode cX4_servedBy 27 = .ok (.iaload, 1) := by decide +kernel
theorem dX4_servedBy_28 : decode cX4_servedBy 28 = .ok (.invokestatic 86, 3) := by decide +kernel
theorem dX4_servedBy_31 : decode cX4_servedBy 31 = .ok (.ifCond .eq 7, 3) := by decide +kernel
theorem dX4_servedBy_34 : decode cX4_servedBy 34 = .ok (.iload_n 3, 1) := by decide +kernel
theorem dX4_servedBy_35 : decode cX4_servedBy 35 = .ok (.goto 4, 3) := by decide +kernel
theorem dX4_servedBy_38 : decode cX4_servedBy 38 = .ok (.iload_n 2, 1) := by decide +kernel
theorem dX4_servedBy_39 : decode cX4_servedBy 39 = .ok (.istore_n 2, 1) := by decide +kernel
theorem dX4_servedBy_40 : decode cX4_servedBy 40 = .ok (.iinc 3 1, 3) := by decide +kernel
theorem dX4_servedBy_43 : decode cX4_servedBy 43 = .ok (.goto (-39), 3) := by decide +kernel
theorem dX4_servedBy_46 : decode cX4_servedBy 46 = .ok (.iload_n 2, 1) := by decide +kernel
theorem dX4_servedBy_47 : decode cX4_servedBy 47 = .ok (.ireturn, 1) := by decide +kernel
theorem dX4_served_0 : decode cX4_served 0 = .ok (.aload_n 0, 1) := by decide +kernel
theorem dX4_served_1 : decode cX4_served 1 = .ok (.iload_n 1, 1) := by decide +kernel
theorem dX4_served_2 : decode cX4_served 2 = .ok (.invokestatic 70, 3) := by decide +kernel
theorem dX4_served_5 : decode cX4_served 5 = .ok (.ifCond .ne 7, 3) := by decide +kernel
theorem dX4_served_8 : decode cX4_served 8 = .ok (.iconst 1, 1) := by decide +kernel
theorem dX4_served_9 : decode cX4_served 9 = .ok (.goto 17, 3) := by decide +kernel
theorem dX4_served_12 : decode cX4_served 12 = .ok (.aload_n 0, 1) := by decide +kernel
theorem dX4_served_13 : decode cX4_served 13 = .ok (.iload_n 1, 1) := by decide +kernel
theorem dX4_served_14 : decode cX4_served 14 = .ok (.invokevirtual 90, 3) := by decide +kernel
theorem dX4_served_17 : decode cX4_served 17 = .ok (.iconst (-1), 1) := by decide +kernel
theorem dX4_served_18 : decode cX4_served 18 = .ok (.if_icmp .ne 7, 3) := by decide +kernel
theorem dX4_served_21 : decode cX4_served 21 = .ok (.iconst 2, 1) := by decide +kernel
theorem dX4_served_22 : decode cX4_served 22 = .ok (.goto 4, 3) := by decide +kernel
theorem dX4_served_25 : decode cX4_served 25 = .ok (.iconst 0, 1) := by decide +kernel
theorem dX4_served_26 : decode cX4_served 26 = .ok (.putfield 44, 3) := by decide +kernel
theorem dX4_served_29 : decode cX4_served 29 = .ok (.aload_n 0, 1) := by decide +kernel
theorem dX4_served_30 : decode cX4_served 30 = .ok (.getfield 44, 3) := by decide +kernel
theorem dX4_served_33 : decode cX4_served 33 = .ok (.ifCond .ne 11, 3) := by decide +kernel
theorem dX4_served_36 : decode cX4_served 36 = .ok (.aload_n 0, 1) := by decide +kernel
theorem dX4_served_37 : decode cX4_served 37 = .ok (.iload_n 1, 1) := by decide +kernel
theorem dX4_served_38 : decode cX4_served 38 = .ok (.invokevirtual 90, 3) := by decide +kernel
theorem dX4_served_41 : decode cX4_served 41 = .ok (.goto 4, 3) := by decide +kernel
theorem dX4_served_44 : decode cX4_served 44 = .ok (.iconst (-1), 1) := by decide +kernel
theorem dX4_served_45 : decode cX4_served 45 = .ok (.ireturn, 1) := by decide +kernel
theorem dX4_covered_0 : decode cX4_covered 0 = .ok (.aload_n 0, 1) := by decide +kernel
theorem dX4_covered_1 : decode cX4_covered 1 = .ok (.iconst 0, 1) := by decide +kernel
theorem dX4_covered_2 : decode cX4_covered 2 = .ok (.putfield 44, 3) := by decide +kernel
theorem dX4_covered_5 : decode cX4_covered 5 = .ok (.iconst 0, 1) := by decide +kernel
theorem dX4_covered_6 : decode cX4_covered 6 = .ok (.istore_n 1, 1) := by decide +kernel
theorem dX4_covered_7 : decode cX4_covered 7 = .ok (.iconst 0, 1) := by decide +kernel
theorem dX4_covered_8 : decode cX4_covered 8 = .ok (.istore_n 2, 1) := by decide +kernel
theorem dX4_covered_9 : decode cX4_covered 9 = .ok (.iload_n 2, 1) := by decide +kernel
theorem dX4_covered_10 : decode cX4_covered 10 = .ok (.aload_n 0, 1) := by decide +kernel
theorem dX4_covered_11 : decode cX4_covered 11 = .ok (.getfield 67, 3) := by decide +kernel
theorem dX4_covered_14 : decode cX4_covered 14 = .ok (.if_icmp .ge 72, 3) := by decide +kernel
theorem dX4_covered_17 : decode cX4_covered 17 = .ok (.iconst 0, 1) := by decide +kernel
theorem dX4_covered_18 : decode cX4_covered 18 = .ok (.istore_n 3, 1) := by decide +kernel
theorem dX4_covered_19 : decode cX4_covered 19 = .ok (.iconst 0, 1) := by decide +kernel
theorem dX4_covered_20 : decode cX4_covered 20 = .ok (.istore 4, 2) := by decide +kernel
theorem dX4_covered_22 : decode cX4_covered 22 = .ok (.iload 4, 2) := by decide +kernel
theorem dX4_covered_24 : decode cX4_covered 24 = .ok (.sipush 341, 3) := by decide +kernel
theorem dX4_covered_27 : decode cX4_covered 27 = .ok (.if_icmp .ge 32, 3) := by decide +kernel
theorem dX4_covered_30 : decode cX4_covered 30 = .ok (.iload_n 3, 1) := by decide +kernel
theorem dX4_covered_31 : decode cX4_covered 31 = .ok (.ifCond .ne 16, 3) := by decide +kernel
theorem dX4_covered_34 : decode cX4_covered 34 = .ok (.aload_n 0, 1) := by decide +kernel
theorem dX4_covered_35 : decode cX4_covered 35 = .ok (.iload 4, 2) := by decide +kernel
theorem dX4_covered_37 : decode cX4_covered 37 = .ok (.invokestatic 93, 3) := by decide +kernel
theorem dX4_covered_40 : decode cX4_covered 40 = .ok (.invokevirtual 90, 3) := by decide +kernel
theorem dX4_covered_43 : decode cX4_covered 43 = .ok (.iload_n 2, 1) := by decide +kernel
theorem dX4_covered_44 : decode cX4_covered 44 = .ok (.if_icmp .ne 7, 3) := by decide +kernel
theorem dX4_covered_47 : decode cX4_covered 47 = .ok (.iconst 1, 1) := by decide +kernel
theorem dX4_covered_48 : decode cX4_covered 48 = .ok (.goto 4, 3) := by decide +kernel
theorem dX4_covered_51 : decode cX4_covered 51 = .ok (.iconst 0, 1) := by decide +kernel
theorem dX4_covered_52 : decode cX4_covered 52 = .ok (.istore_n 3, 1) := by decide +kernel
theorem dX4_covered_53 : decode cX4_covered 53 = .ok (.iinc 4 1, 3) := by decide +kernel
theorem dX4_covered_56 : decode cX4_covered 56 = .ok (.goto (-34), 3) := by decide +kernel
theorem dX4_covered_59 : decode cX4_covered 59 = .ok (.iload_n 1, 1) := by decide +kernel
theorem dX4_covered_60 : decode cX4_covered 60 = .ok (.aload_n 0, 1) := by decide +kernel
theorem dX4_covered_61 : decode cX4_covered 61 = .ok (.getfield 28, 3) := by decide +kernel
theorem dX4_covered_64 : decode cX4_covered 64 = .ok (.iload_n 2, 1) := by decide +kernel
theorem dX4_covered_65 : decode cX4_covered 65 = .ok (.baload, 1) := by decide +kernel
theorem dX4_covered_66 : decode cX4_covered 66 = .ok (.ifCond .eq 11, 3) := by decide +kernel
theorem dX4_covered_69 : decode cX4_covered 69 = .ok (.iload_n 3, 1) := by decide +kernel
theorem dX4_covered_70 : decode cX4_covered 70 = .ok (.ifCond .ne 7, 3) := by decide +kernel
theorem dX4_covered_73 : decode cX4_covered 73 = .ok (.iconst 1, 1) := by decide +kernel
theorem dX4_covered_74 : decode cX4_covered 74 = .ok (.goto 4, 3) := by decide +kernel
theorem dX4_covered_77 : decode cX4_covered 77 = .ok (.iconst 0, 1) := by decide +kernel
theorem dX4_covered_78 : decode cX4_covered 78 = .ok (.iadd, 1) := by decide +kernel
theorem dX4_covered_79 : decode cX4_covered 79 = .ok (.istore_n 1, 1) := by decide +kernel
theorem dX4_covered_80 : decode cX4_covered 80 = .ok (.iinc 2 1, 3) := by decide +kernel
theorem dX4_covered_83 : decode cX4_covered 83 = .ok (.goto (-74), 3) := by decide +kernel
theorem dX4_covered_86 : decode cX4_covered 86 = .ok (.iload_n 1, 1) := by decide +kernel
theorem dX4_covered_87 : decode cX4_covered 87 = .ok (.ireturn, 1) := by decide +kernel
theorem dX4_shown_0 : decode cX4_shown 0 = .ok (.aload_n 0, 1) := by decide +kernel
theorem dX4_shown_1 : decode cX4_shown 1 = .ok (.iload_n 1, 1) := by decide +kernel
theorem dX4_shown_2 : decode cX4_shown 2 = .ok (.invokevirtual 90, 3) := by decide +kernel
theorem dX4_shown_5 : decode cX4_shown 5 = .ok (.istore_n 2, 1) := by decide +kernel
theorem dX4_shown_6 : decode cX4_shown 6 = .ok (.iload_n 2, 1) := by decide +kernel
theorem dX4_shown_7 : decode cX4_shown 7 = .ok (.iconst (-1), 1) := by decide +kernel
theorem dX4_shown_8 : decode cX4_shown 8 = .ok (.if_icmp .eq 16, 3) := by decide +kernel
theorem dX4_shown_11 : decode cX4_shown 11 = .ok (.iload_n 1, 1) := by decide +kernel
theorem dX4_shown_12 : decode cX4_shown 12 = .ok (.aload_n 0, 1) := by decide +kernel
theorem dX4_shown_13 : decode cX4_shown 13 = .ok (.getfield 19, 3) := by decide +kernel
theorem dX4_shown_16 : decode cX4_shown 16 = .ok (.iload_n 2, 1) := by decide +kernel
theorem dX4_shown_17 : decode cX4_shown 17 = .ok (.iaload, 1) := by decide +kernel
theorem dX4_shown_18 : decode cX4_shown 18 = .ok (.invokestatic 96, 3) := by decide +kernel
theorem dX4_shown_21 : decode cX4_shown 21 = .ok (.ifCond .ne 5, 3) := by decide +kernel
theorem dX4_shown_24 : decode cX4_shown 24 = .ok (.iconst (-1), 1) := by decide +kernel
theorem dX4_shown_25 : decode cX4_shown 25 = .ok (.ireturn, 1) := by decide +kernel
theorem dX4_shown_26 : decode cX4_shown 26 = .ok (.iload_n 1, 1) := by decide +kernel
theorem dX4_shown_27 : decode cX4_shown 27 = .ok (.aload_n 0, 1) := by decide +kernel
theorem dX4_shown_28 : decode cX4_shown 28 = .ok (.getfield 19, 3) := by decide +kernel
theorem dX4_shown_31 : decode cX4_shown 31 = .ok (.iload_n 2, 1) := by decide +kernel
theorem dX4_shown_32 : decode cX4_shown 32 = .ok (.iaload, 1) := by decide +kernel
theorem dX4_shown_33 : decode cX4_shown 33 = .ok (.invokestatic 96, 3) := by decide +kernel
theorem dX4_shown_36 : decode cX4_shown 36 = .ok (.invokestatic 99, 3) := by decide +kernel
end
section
theorem dX4_shown_39 : decode cX4_shown 39 = .ok (.istore_n 3, 1) := by decide +kernel
theorem dX4_shown_40 : decode cX4_shown 40 = .ok (.aload_n 0, 1) := by decide +kernel
theorem dX4_shown_41 : decode cX4_shown 41 = .ok (.getfield 25, 3) := by decide +kernel
theorem dX4_shown_44 : decode cX4_shown 44 = .ok (.iload_n 2, 1) := by decide +kernel
theorem dX4_shown_45 : decode cX4_shown 45 = .ok (.iaload, 1) := by decide +kernel
theorem dX4_shown_46 : decode cX4_shown 46 = .ok (.iconst (-1), 1) := by decide +kernel
theorem dX4_shown_47 : decode cX4_shown 47 = .ok (.if_icmp .ne 7, 3) := by decide +kernel
theorem dX4_shown_50 : decode cX4_shown 50 = .ok (.iconst (-1), 1) := by decide +kernel
theorem dX4_shown_51 : decode cX4_shown 51 = .ok (.goto 15, 3) := by decide +kernel
theorem dX4_shown_54 : decode cX4_shown 54 = .ok (.sipush 341, 3) := by decide +kernel
theorem dX4_shown_57 : decode cX4_shown 57 = .ok (.aload_n 0, 1) := by decide +kernel
theorem dX4_shown_58 : decode cX4_shown 58 = .ok (.getfield 25, 3) := by decide +kernel
theorem dX4_shown_61 : decode cX4_shown 61 = .ok (.iload_n 2, 1) := by decide +kernel
theorem dX4_shown_62 : decode cX4_shown 62 = .ok (.iaload, 1) := by decide +kernel
theorem dX4_shown_63 : decode cX4_shown 63 = .ok (.imul, 1) := by decide +kernel
theorem dX4_shown_64 : decode cX4_shown 64 = .ok (.iload_n 3, 1) := by decide +kernel
theorem dX4_shown_65 : decode cX4_shown 65 = .ok (.iadd, 1) := by decide +kernel
theorem dX4_shown_66 : decode cX4_shown 66 = .ok (.istore 4, 2) := by decide +kernel
theorem dX4_shown_68 : decode cX4_shown 68 = .ok (.iload 4, 2) := by decide +kernel
theorem dX4_shown_70 : decode cX4_shown 70 = .ok (.iconst (-1), 1) := by decide +kernel
theorem dX4_shown_71 : decode cX4_shown 71 = .ok (.if_icmp .eq 18, 3) := by decide +kernel
theorem dX4_shown_74 : decode cX4_shown 74 = .ok (.aload_n 0, 1) := by decide +kernel
theorem dX4_shown_75 : decode cX4_shown 75 = .ok (.getfield 7, 3) := by decide +kernel
theorem dX4_shown_78 : decode cX4_shown 78 = .ok (.iload 4, 2) := by decide +kernel
theorem dX4_shown_80 : decode cX4_shown 80 = .ok (.iaload, 1) := by decide +kernel
theorem dX4_shown_81 : decode cX4_shown 81 = .ok (.ifCond .eq 8, 3) := by decide +kernel
theorem dX4_shown_84 : decode cX4_shown 84 = .ok (.iload 4, 2) := by decide +kernel
theorem dX4_shown_86 : decode cX4_shown 86 = .ok (.goto 15, 3) := by decide +kernel
theorem dX4_shown_89 : decode cX4_shown 89 = .ok (.sipush 341, 3) := by decide +kernel
theorem dX4_shown_92 : decode cX4_shown 92 = .ok (.aload_n 0, 1) := by decide +kernel
theorem dX4_shown_93 : decode cX4_shown 93 = .ok (.getfield 22, 3) := by decide +kernel
theorem dX4_shown_96 : decode cX4_shown 96 = .ok (.iload_n 2, 1) := by decide +kernel
theorem dX4_shown_97 : decode cX4_shown 97 = .ok (.iaload, 1) := by decide +kernel
theorem dX4_shown_98 : decode cX4_shown 98 = .ok (.imul, 1) := by decide +kernel
theorem dX4_shown_99 : decode cX4_shown 99 = .ok (.iload_n 3, 1) := by decide +kernel
theorem dX4_shown_100 : decode cX4_shown 100 = .ok (.iadd, 1) := by decide +kernel
theorem dX4_shown_101 : decode cX4_shown 101 = .ok (.istore 5, 2) := by decide +kernel
theorem dX4_shown_103 : decode cX4_shown 103 = .ok (.aload_n 0, 1) := by decide +kernel
theorem dX4_shown_104 : decode cX4_shown 104 = .ok (.getfield 7, 3) := by decide +kernel
theorem dX4_shown_107 : decode cX4_shown 107 = .ok (.iload 5, 2) := by decide +kernel
theorem dX4_shown_109 : decode cX4_shown 109 = .ok (.iaload, 1) := by decide +kernel
theorem dX4_shown_110 : decode cX4_shown 110 = .ok (.iconst 1, 1) := by decide +kernel
theorem dX4_shown_111 : decode cX4_shown 111 = .ok (.if_icmp .eq 14, 3) := by decide +kernel
theorem dX4_shown_114 : decode cX4_shown 114 = .ok (.aload_n 0, 1) := by decide +kernel
theorem dX4_shown_115 : decode cX4_shown 115 = .ok (.getfield 7, 3) := by decide +kernel
theorem dX4_shown_118 : decode cX4_shown 118 = .ok (.iload 5, 2) := by decide +kernel
theorem dX4_shown_120 : decode cX4_shown 120 = .ok (.iaload, 1) := by decide +kernel
theorem dX4_shown_121 : decode cX4_shown 121 = .ok (.iconst 2, 1) := by decide +kernel
theorem dX4_shown_122 : decode cX4_shown 122 = .ok (.if_icmp .ne 8, 3) := by decide +kernel
theorem dX4_shown_125 : decode cX4_shown 125 = .ok (.iload 5, 2) := by decide +kernel
theorem dX4_shown_127 : decode cX4_shown 127 = .ok (.goto 4, 3) := by decide +kernel
theorem dX4_shown_130 : decode cX4_shown 130 = .ok (.iconst (-1), 1) := by decide +kernel
theorem dX4_shown_131 : decode cX4_shown 131 = .ok (.ireturn, 1) := by decide +kernel
theorem dX4_used_0 : decode cX4_used 0 = .ok (.iconst 0, 1) := by decide +kernel
theorem dX4_used_1 : decode cX4_used 1 = .ok (.istore_n 3, 1) := by decide +kernel
theorem dX4_used_2 : decode cX4_used 2 = .ok (.iconst 0, 1) := by decide +kernel
theorem dX4_used_3 : decode cX4_used 3 = .ok (.istore 4, 2) := by decide +kernel
theorem dX4_used_5 : decode cX4_used 5 = .ok (.iload 4, 2) := by decide +kernel
theorem dX4_used_7 : decode cX4_used 7 = .ok (.sipush 2046, 3) := by decide +kernel
theorem dX4_used_10 : decode cX4_used 10 = .ok (.if_icmp .ge 51, 3) := by decide +kernel
theorem dX4_used_13 : decode cX4_used 13 = .ok (.iload_n 3, 1) := by decide +kernel
theorem dX4_used_14 : decode cX4_used 14 = .ok (.aload_n 0, 1) := by decide +kernel
theorem dX4_used_15 : decode cX4_used 15 = .ok (.getfield 7, 3) := by decide +kernel
theorem dX4_used_18 : decode cX4_used 18 = .ok (.iload 4, 2) := by decide +kernel
theorem dX4_used_20 : decode cX4_used 20 = .ok (.iaload, 1) := by decide +kernel
theorem dX4_used_21 : decode cX4_used 21 = .ok (.iconst 1, 1) := by decide +kernel
theorem dX4_used_22 : decode cX4_used 22 = .ok (.if_icmp .ne 30, 3) := by decide +kernel
theorem dX4_used_25 : decode cX4_used 25 = .ok (.aload_n 0, 1) := by decide +kernel
theorem dX4_used_26 : decode cX4_used 26 = .ok (.getfield 13, 3) := by decide +kernel
theorem dX4_used_29 : decode cX4_used 29 = .ok (.iload 4, 2) := by decide +kernel
theorem dX4_used_31 : decode cX4_used 31 = .ok (.iaload, 1) := by decide +kernel
theorem dX4_used_32 : decode cX4_used 32 = .ok (.iload_n 1, 1) := by decide +kernel
theorem dX4_used_33 : decode cX4_used 33 = .ok (.if_icmp .ne 19, 3) := by decide +kernel
theorem dX4_used_36 : decode cX4_used 36 = .ok (.iload 4, 2) := by decide +kernel
theorem dX4_used_38 : decode cX4_used 38 = .ok (.iload_n 2, 1) := by decide +kernel
theorem dX4_used_39 : decode cX4_used 39 = .ok (.if_icmp .eq 13, 3) := by decide +kernel
theorem dX4_used_42 : decode cX4_used 42 = .ok (.aload_n 0, 1) := by decide +kernel
theorem dX4_used_43 : decode cX4_used 43 = .ok (.getfield 16, 3) := by decide +kernel
theorem dX4_used_46 : decode cX4_used 46 = .ok (.iload 4, 2) := by decide +kernel
theorem dX4_used_48 : decode cX4_used 48 = .ok (.iaload, 1) := by decide +kernel
theorem dX4_used_49 : decode cX4_used 49 = .ok (.goto 4, 3) := by decide +kernel
theorem dX4_used_52 : decode cX4_used 52 = .ok (.iconst 0, 1) := by decide +kernel
theorem dX4_used_53 : decode cX4_used 53 = .ok (.iadd, 1) := by decide +kernel
theorem dX4_used_54 : decode cX4_used 54 = .ok (.istore_n 3, 1) := by decide +kernel
theorem dX4_used_55 : decode cX4_used 55 = .ok (.iinc 4 1, 3) := by decide +kernel
theorem dX4_used_58 : decode cX4_used 58 = .ok (.goto (-53), 3) := by decide +kernel
theorem dX4_used_61 : decode cX4_used 61 = .ok (.iload_n 3, 1) := by decide +kernel
theorem dX4_used_62 : decode cX4_used 62 = .ok (.ireturn, 1) := by decide +kernel
theorem dX4_isOwner_0 : decode cX4_isOwner 0 = .ok (.iload_n 0, 1) := by decide +kernel
theorem dX4_isOwner_1 : decode cX4_isOwner 1 = .ok (.i2l, 1) := by decide +kernel
theorem dX4_isOwner_2 : decode cX4_isOwner 2 = .ok (.lconst 0, 1) := by decide +kernel
theorem dX4_isOwner_3 : decode cX4_isOwner 3 = .ok (.ldc2_w 102, 3) := by decide +kernel
theorem dX4_isOwner_6 : decode cX4_isOwner 6 = .ok (.invokestatic 50, 3) := by decide +kernel
theorem dX4_isOwner_9 : decode cX4_isOwner 9 = .ok (.ireturn, 1) := by decide +kernel
theorem dX4_canWrite_0 : decode cX4_canWrite 0 = .ok (.aload_n 0, 1) := by decide +kernel
theorem dX4_canWrite_1 : decode cX4_canWrite 1 = .ok (.iload_n 1, 1) := by decide +kernel
theorem dX4_canWrite_2 : decode cX4_canWrite 2 = .ok (.invokevirtual 90, 3) := by decide +kernel
theorem dX4_canWrite_5 : decode cX4_canWrite 5 = .ok (.istore_n 2, 1) := by decide +kernel
theorem dX4_canWrite_6 : decode cX4_canWrite 6 = .ok (.iload_n 2, 1) := by decide +kernel
theorem dX4_canWrite_7 : decode cX4_canWrite 7 = .ok (.iconst (-1), 1) := by decide +kernel
theorem dX4_canWrite_8 : decode cX4_canWrite 8 = .ok (.if_icmp .eq 20, 3) := by decide +kernel
theorem dX4_canWrite_11 : decode cX4_canWrite 11 = .ok (.iload_n 1, 1) := by decide +kernel
theorem dX4_canWrite_12 : decode cX4_canWrite 12 = .ok (.aload_n 0, 1) := by decide +kernel
theorem dX4_canWrite_13 : decode cX4_canWrite 13 = .ok (.getfield 19, 3) := by decide +kernel
theorem dX4_canWrite_16 : decode cX4_canWrite 16 = .ok (.iload_n 2, 1) := by decide +kernel
theorem dX4_canWrite_17 : decode cX4_canWrite 17 = .ok (.iaload, 1) := by decide +kernel
theorem dX4_canWrite_18 : decode cX4_canWrite 18 = .ok (.invokestatic 96, 3) := by decide +kernel
theorem dX4_canWrite_21 : decode cX4_canWrite 21 = .ok (.ifCond .eq 7, 3) := by decide +kernel
theorem dX4_canWrite_24 : decode cX4_canWrite 24 = .ok (.iconst 1, 1) := by decide +kernel
theorem dX4_canWrite_25 : decode cX4_canWrite 25 = .ok (.goto 4, 3) := by decide +kernel
theorem dX4_canWrite_28 : decode cX4_canWrite 28 = .ok (.iconst 0, 1) := by decide +kernel
theorem dX4_canWrite_29 : decode cX4_canWrite 29 = .ok (.ireturn, 1) := by decide +kernel
theorem dX4_target_0 : decode cX4_target 0 = .ok (.aload_n 0, 1) := by decide +kernel
theorem dX4_target_1 : decode cX4_target 1 = .ok (.iload_n 1, 1) := by decide +kernel
theorem dX4_target_2 : decode cX4_target 2 = .ok (.invokevirtual 90, 3) := by decide +kernel
theorem dX4_target_5 : decode cX4_target 5 = .ok (.istore_n 2, 1) := by decide +kernel
theorem dX4_target_6 : decode cX4_target 6 = .ok (.sipush 341, 3) := by decide +kernel
theorem dX4_target_9 : decode cX4_target 9 = .ok (.aload_n 0, 1) := by decide +kernel
theorem dX4_target_10 : decode cX4_target 10 = .ok (.getfield 25, 3) := by decide +kernel
theorem dX4_target_13 : decode cX4_target 13 = .ok (.iload_n 2, 1) := by decide +kernel
theorem dX4_target_14 : decode cX4_target 14 = .ok (.iaload, 1) := by decide +kernel
theorem dX4_target_15 : decode cX4_target 15 = .ok (.iconst (-1), 1) := by decide +kernel
theorem dX4_target_16 : decode cX4_target 16 = .ok (.if_icmp .ne 12, 3) := by decide +kernel
theorem dX4_target_19 : decode cX4_target 19 = .ok (.aload_n 0, 1) := by decide +kernel
theorem dX4_target_20 : decode cX4_target 20 = .ok (.getfield 22, 3) := by decide +kernel
theorem dX4_target_23 : decode cX4_target 23 = .ok (.iload_n 2, 1) := by decide +kernel
theorem dX4_target_24 : decode cX4_target 24 = .ok (.iaload, 1) := by decide +kernel
theorem dX4_target_25 : decode cX4_target 25 = .ok (.goto 9, 3) := by decide +kernel
theorem dX4_target_28 : decode cX4_target 28 = .ok (.aload_n 0, 1) := by decide +kernel
theorem dX4_target_29 : decode cX4_target 29 = .ok (.getfield 25, 3) := by decide +kernel
theorem dX4_target_32 : decode cX4_target 32 = .ok (.iload_n 2, 1) := by decide +kernel
theorem dX4_target_33 : decode cX4_target 33 = .ok (.iaload, 1) := by decide +kernel
theorem dX4_target_34 : decode cX4_target 34 = .ok (.imul, 1) := by decide +kernel
theorem dX4_target_35 : decode cX4_target 35 = .ok (.iload_n 1, 1) := by decide +kernel
theorem dX4_target_36 : decode cX4_target 36 = .ok (.aload_n 0, 1) := by decide +kernel
theorem dX4_target_37 : decode cX4_target 37 = .ok (.getfield 19, 3) := by decide +kernel
theorem dX4_target_40 : decode cX4_target 40 = .ok (.iload_n 2, 1) := by decide +kernel
theorem dX4_target_41 : decode cX4_target 41 = .ok (.iaload, 1) := by decide +kernel
theorem dX4_target_42 : decode cX4_target 42 = .ok (.invokestatic 96, 3) := by decide +kernel
theorem dX4_target_45 : decode cX4_target 45 = .ok (.invokestatic 99, 3) := by decide +kernel
theorem dX4_target_48 : decode cX4_target 48 = .ok (.iadd, 1) := by decide +kernel
theorem dX4_target_49 : decode cX4_target 49 = .ok (.ireturn, 1) := by decide +kernel
theorem dX4_puts_0 : decode cX4_puts 0 = .ok (.aload_n 0, 1) := by decide +kernel
theorem dX4_puts_1 : decode cX4_puts 1 = .ok (.iload_n 1, 1) := by decide +kernel
theorem dX4_puts_2 : decode cX4_puts 2 = .ok (.invokevirtual 104, 3) := by decide +kernel
theorem dX4_puts_5 : decode cX4_puts 5 = .ok (.istore 5, 2) := by decide +kernel
theorem dX4_puts_7 : decode cX4_puts 7 = .ok (.aload_n 0, 1) := by decide +kernel
theorem dX4_puts_8 : decode cX4_puts 8 = .ok (.iload_n 1, 1) := by decide +kernel
theorem dX4_puts_9 : decode cX4_puts 9 = .ok (.invokevirtual 107, 3) := by decide +kernel
theorem dX4_puts_12 : decode cX4_puts 12 = .ok (.istore 6, 2) := by decide +kernel
theorem dX4_puts_14 : decode cX4_puts 14 = .ok (.aload_n 0, 1) := by decide +kernel
theorem dX4_puts_15 : decode cX4_puts 15 = .ok (.dup, 1) := by decide +kernel
theorem dX4_puts_16 : decode cX4_puts 16 = .ok (.getfield 110, 3) := by decide +kernel
theorem dX4_puts_19 : decode cX4_puts 19 = .ok (.iload 6, 2) := by decide +kernel
theorem dX4_puts_21 : decode cX4_puts 21 = .ok (.iconst (-1), 1) := by decide +kernel
theorem dX4_puts_22 : decode cX4_puts 22 = .ok (.if_icmp .eq 14, 3) := by decide +kernel
theorem dX4_puts_25 : decode cX4_puts 25 = .ok (.iload 6, 2) := by decide +kernel
theorem dX4_puts_27 : decode cX4_puts 27 = .ok (.iload 5, 2) := by decide +kernel
theorem dX4_puts_29 : decode cX4_puts 29 = .ok (.if_icmp .eq 7, 3) := by decide +kernel
theorem dX4_puts_32 : decode cX4_puts 32 = .ok (.iconst 1, 1) := by decide +kernel
theorem dX4_puts_33 : decode cX4_puts 33 = .ok (.goto 4, 3) := by decide +kernel
theorem dX4_puts_36 : decode cX4_puts 36 = .ok (.iconst 0, 1) := by decide +kernel
theorem dX4_puts_37 : decode cX4_puts 37 = .ok (.iadd, 1) := by decide +kernel
theorem dX4_puts_38 : decode cX4_puts 38 = .ok (.putfield 110, 3) := by decide +kernel
theorem dX4_puts_41 : decode cX4_puts 41 = .ok (.aload_n 0, 1) := by decide +kernel
theorem dX4_puts_42 : decode cX4_puts 42 = .ok (.getfield 7, 3) := by decide +kernel
theorem dX4_puts_45 : decode cX4_puts 45 = .ok (.iload 5, 2) := by decide +kernel
theorem dX4_puts_47 : decode cX4_puts 47 = .ok (.iload_n 2, 1) := by decide +kernel
theorem dX4_puts_48 : decode cX4_puts 48 = .ok (.iastore, 1) := by decide +kernel
theorem dX4_puts_49 : decode cX4_puts 49 = .ok (.aload_n 0, 1) := by decide +kernel
theorem dX4_puts_50 : decode cX4_puts 50 = .ok (.getfield 13, 3) := by decide +kernel
theorem dX4_puts_53 : decode cX4_puts 53 = .ok (.iload 5, 2) := by decide +kernel
theorem dX4_puts_55 : decode cX4_puts 55 = .ok (.iload_n 3, 1) := by decide +kernel
theorem dX4_puts_56 : decode cX4_puts 56 = .ok (.iastore, 1) := by decide +kernel
theorem dX4_puts_57 : decode cX4_puts 57 = .ok (.aload_n 0, 1) := by decide +kernel
theorem dX4_puts_58 : decode cX4_puts 58 = .ok (.getfield 16, 3) := by decide +kernel
theorem dX4_puts_61 : decode cX4_puts 61 = .ok (.iload 5, 2) := by decide +kernel
theorem dX4_puts_63 : decode cX4_puts 63 = .ok (.iload 4, 2) := by decide +kernel
theorem dX4_puts_65 : decode cX4_puts 65 = .ok (.iastore, 1) := by decide +kernel
theorem dX4_puts_66 : decode cX4_puts 66 = .ok (.return_, 1) := by decide +kernel
theorem dX4_write_0 : decode cX4_write 0 = .ok (.iload_n 1, 1) := by decide +kernel
theorem dX4_write_1 : decode cX4_write 1 = .ok (.invokestatic 113, 3) := by decide +kernel
theorem dX4_write_4 : decode cX4_write 4 = .ok (.ifCond .eq 22, 3) := by decide +kernel
theorem dX4_write_7 : decode cX4_write 7 = .ok (.iload_n 3, 1) := by decide +kernel
theorem dX4_write_8 : decode cX4_write 8 = .ok (.i2l, 1) := by decide +kernel
theorem dX4_write_9 : decode cX4_write 9 = .ok (.lconst 0, 1) := by decide +kernel
theorem dX4_write_10 : decode cX4_write 10 = .ok (.ldc2_w 116, 3) := by decide +kernel
theorem dX4_write_13 : decode cX4_write 13 = .ok (.invokestatic 50, 3) := by decide +kernel
theorem dX4_write_16 : decode cX4_write 16 = .ok (.ifCond .eq 10, 3) := by decide +kernel
theorem dX4_write_19 : decode cX4_write 19 = .ok (.iload_n 2, 1) := by decide +kernel
theorem dX4_write_20 : decode cX4_write 20 = .ok (.invokestatic 70, 3) := by decide +kernel
theorem dX4_write_23 : decode cX4_write 23 = .ok (.ifCond .ne 10, 3) := by decide +kernel
theorem dX4_write_26 : decode cX4_write 26 = .ok (.aload_n 0, 1) := by decide +kernel
theorem dX4_write_27 : decode cX4_write 27 = .ok (.iconst 1, 1) := by decide +kernel
theorem dX4_write_28 : decode cX4_write 28 = .ok (.putfield 44, 3) := by decide +kernel
theorem dX4_write_31 : decode cX4_write 31 = .ok (.iconst (-1), 1) := by decide +kernel
theorem dX4_write_32 : decode cX4_write 32 = .ok (.ireturn, 1) := by decide +kernel
theorem dX4_write_33 : decode cX4_write 33 = .ok (.aload_n 0, 1) := by decide +kernel
theorem dX4_write_34 : decode cX4_write 34 = .ok (.iload_n 2, 1) := by decide +kernel
theorem dX4_write_35 : decode cX4_write 35 = .ok (.invokevirtual 118, 3) := by decide +kernel
theorem dX4_write_38 : decode cX4_write 38 = .ok (.ifCond .ne 10, 3) := by decide +kernel
theorem dX4_write_41 : decode cX4_write 41 = .ok (.aload_n 0, 1) := by decide +kernel
theorem dX4_write_42 : decode cX4_write 42 = .ok (.iconst 2, 1) := by decide +kernel
theorem dX4_write_43 : decode cX4_write 43 = .ok (.putfield 44, 3) := by decide +kernel
theorem dX4_write_46 : decode cX4_write 46 = .ok (.iconst (-1), 1) := by decide +kernel
theorem dX4_write_47 : decode cX4_write 47 = .ok (.ireturn, 1) := by decide +kernel
theorem dX4_write_48 : decode cX4_write 48 = .ok (.aload_n 0, 1) := by decide +kernel
theorem dX4_write_49 : decode cX4_write 49 = .ok (.iload_n 1, 1) := by decide +kernel
theorem dX4_write_50 : decode cX4_write 50 = .ok (.aload_n 0, 1) := by decide +kernel
theorem dX4_write_51 : decode cX4_write 51 = .ok (.iload_n 2, 1) := by decide +kernel
theorem dX4_write_52 : decode cX4_write 52 = .ok (.invokevirtual 104, 3) := by decide +kernel
theorem dX4_write_55 : decode cX4_write 55 = .ok (.invokevirtual 121, 3) := by decide +kernel
theorem dX4_write_58 : decode cX4_write 58 = .ok (.iload_n 3, 1) := by decide +kernel
theorem dX4_write_59 : decode cX4_write 59 = .ok (.iadd, 1) := by decide +kernel
theorem dX4_write_60 : decode cX4_write 60 = .ok (.istore 4, 2) := by decide +kernel
theorem dX4_write_62 : decode cX4_write 62 = .ok (.aload_n 0, 1) := by decide +kernel
theorem dX4_write_63 : decode cX4_write 63 = .ok (.iload 4, 2) := by decide +kernel
theorem dX4_write_65 : decode cX4_write 65 = .ok (.aload_n 0, 1) := by decide +kernel
theorem dX4_write_66 : decode cX4_write 66 = .ok (.getfield 35, 3) := by decide +kernel
theorem dX4_write_69 : decode cX4_write 69 = .ok (.iload_n 1, 1) := by decide +kernel
theorem dX4_write_70 : decode cX4_write 70 = .ok (.iaload, 1) := by decide +kernel
theorem dX4_write_71 : decode cX4_write 71 = .ok (.if_icmp .le 7, 3) := by decide +kernel
theorem dX4_write_74 : decode cX4_write 74 = .ok (.iconst 3, 1) := by decide +kernel
theorem dX4_write_75 : decode cX4_write 75 = .ok (.goto 4, 3) := by decide +kernel
theorem dX4_write_78 : decode cX4_write 78 = .ok (.iconst 0, 1) := by decide +kernel
theorem dX4_write_79 : decode cX4_write 79 = .ok (.putfield 44, 3) := by decide +kernel
theorem dX4_write_82 : decode cX4_write 82 = .ok (.aload_n 0, 1) := by decide +kernel
theorem dX4_write_83 : decode cX4_write 83 = .ok (.getfield 44, 3) := by decide +kernel
theorem dX4_write_86 : decode cX4_write 86 = .ok (.ifCond .le 5, 3) := by decide +kernel
theorem dX4_write_89 : decode cX4_write 89 = .ok (.iconst (-1), 1) := by decide +kernel
theorem dX4_write_90 : decode cX4_write 90 = .ok (.ireturn, 1) := by decide +kernel
theorem dX4_write_91 : decode cX4_write 91 = .ok (.aload_n 0, 1) := by decide +kernel
theorem dX4_write_92 : decode cX4_write 92 = .ok (.iload_n 2, 1) := by decide +kernel
theorem dX4_write_93 : decode cX4_write 93 = .ok (.iconst 1, 1) := by decide +kernel
theorem dX4_write_94 : decode cX4_write 94 = .ok (.iload_n 1, 1) := by decide +kernel
theorem dX4_write_95 : decode cX4_write 95 = .ok (.iload_n 3, 1) := by decide +kernel
theorem dX4_write_96 : decode cX4_write 96 = .ok (.invokevirtual 124, 3) := by decide +kernel
theorem dX4_write_99 : decode cX4_write 99 = .ok (.iload 4, 2) := by decide +kernel
theorem dX4_write_101 : decode cX4_write 101 = .ok (.ireturn, 1) := by decide +kernel
theorem dX4_link_0 : decode cX4_link 0 = .ok (.iload_n 1, 1) := by decide +kernel
theorem dX4_link_1 : decode cX4_link 1 = .ok (.invokestatic 113, 3) := by decide +kernel
theorem dX4_link_4 : decode cX4_link 4 = .ok (.ifCond .eq 17, 3) := by decide +kernel
theorem dX4_link_7 : decode cX4_link 7 = .ok (.iload_n 2, 1) := by decide +kernel
theorem dX4_link_8 : decode cX4_link 8 = .ok (.invokestatic 70, 3) := by decide +kernel
theorem dX4_link_11 : decode cX4_link 11 = .ok (.ifCond .eq 10, 3) := by decide +kernel
theorem dX4_link_14 : decode cX4_link 14 = .ok (.iload_n 3, 1) := by decide +kernel
theorem dX4_link_15 : decode cX4_link 15 = .ok (.invokestatic 70, 3) := by decide +kernel
theorem dX4_link_18 : decode cX4_link 18 = .ok (.ifCond .ne 10, 3) := by decide +kernel
theorem dX4_link_21 : decode cX4_link 21 = .ok (.aload_n 0, 1) := by decide +kernel
theorem dX4_link_22 : decode cX4_link 22 = .ok (.iconst 1, 1) := by decide +kernel
theorem dX4_link_23 : decode cX4_link 23 = .ok (.putfield 44, 3) := by decide +kernel
theorem dX4_link_26 : decode cX4_link 26 = .ok (.iconst (-1), 1) := by decide +kernel
theorem dX4_link_27 : decode cX4_link 27 = .ok (.ireturn, 1) := by decide +kernel
theorem dX4_link_28 : decode cX4_link 28 = .ok (.aload_n 0, 1) := by decide +kernel
theorem dX4_link_29 : decode cX4_link 29 = .ok (.aload_n 0, 1) := by decide +kernel
theorem dX4_link_30 : decode cX4_link 30 = .ok (.iload_n 2, 1) := by decide +kernel
theorem dX4_link_31 : decode cX4_link 31 = .ok (.invokevirtual 118, 3) := by decide +kernel
theorem dX4_link_34 : decode cX4_link 34 = .ok (.ifCond .eq 7, 3) := by decide +kernel
theorem dX4_link_37 : decode cX4_link 37 = .ok (.iconst 0, 1) := by decide +kernel
theorem dX4_link_38 : decode cX4_link 38 = .ok (.goto 4, 3) := by decide +kernel
theorem dX4_link_41 : decode cX4_link 41 = .ok (.iconst 2, 1) := by decide +kernel
theorem dX4_link_42 : decode cX4_link 42 = .ok (.putfield 44, 3) := by decide +kernel
theorem dX4_link_45 : decode cX4_link 45 = .ok (.aload_n 0, 1) := by decide +kernel
theorem dX4_link_46 : decode cX4_link 46 = .ok (.getfield 44, 3) := by decide +kernel
theorem dX4_link_49 : decode cX4_link 49 = .ok (.ifCond .le 5, 3) := by decide +kernel
theorem dX4_link_52 : decode cX4_link 52 = .ok (.iconst (-1), 1) := by decide +kernel
theorem dX4_link_53 : decode cX4_link 53 = .ok (.ireturn, 1) := by decide +kernel
theorem dX4_link_54 : decode cX4_link 54 = .ok (.aload_n 0, 1) := by decide +kernel
theorem dX4_link_55 : decode cX4_link 55 = .ok (.iload_n 2, 1) := by decide +kernel
theorem dX4_link_56 : decode cX4_link 56 = .ok (.iconst 2, 1) := by decide +kernel
theorem dX4_link_57 : decode cX4_link 57 = .ok (.iload_n 1, 1) := by decide +kernel
theorem dX4_link_58 : decode cX4_link 58 = .ok (.iload_n 3, 1) := by decide +kernel
theorem dX4_link_59 : decode cX4_link 59 = .ok (.invokevirtual 124, 3) := by decide +kernel
theorem dX4_link_62 : decode cX4_link 62 = .ok (.iconst 0, 1) := by decide +kernel
theorem dX4_link_63 : decode cX4_link 63 = .ok (.istore 4, 2) := by decide +kernel
theorem dX4_link_65 : decode cX4_link 65 = .ok (.iconst 0, 1) := by decide +kernel
theorem dX4_link_66 : decode cX4_link 66 = .ok (.istore 5, 2) := by decide +kernel
theorem dX4_link_68 : decode cX4_link 68 = .ok (.iload 5, 2) := by decide +kernel
theorem dX4_link_70 : decode cX4_link 70 = .ok (.sipush 2046, 3) := by decide +kernel
theorem dX4_link_73 : decode cX4_link 73 = .ok (.if_icmp .ge 30, 3) := by decide +kernel
theorem dX4_link_76 : decode cX4_link 76 = .ok (.iload 4, 2) := by decide +kernel
theorem dX4_link_78 : decode cX4_link 78 = .ok (.aload_n 0, 1) := by decide +kernel
theorem dX4_link_79 : decode cX4_link 79 = .ok (.getfield 7, 3) := by decide +kernel
theorem dX4_link_82 : decode cX4_link 82 = .ok (.iload 5, 2) := by decide +kernel
theorem dX4_link_84 : decode cX4_link 84 = .ok (.iaload, 1) := by decide +kernel
theorem dX4_link_85 : decode cX4_link 85 = .ok (.iconst 2, 1) := by decide +kernel
theorem dX4_link_86 : decode cX4_link 86 = .ok (.if_icmp .ne 7, 3) := by decide +kernel
theorem dX4_link_89 : decode cX4_link 89 = .ok (.iconst 1, 1) := by decide +kernel
theorem dX4_link_90 : decode cX4_link 90 = .ok (.goto 4, 3) := by decide +kernel
theorem dX4_link_93 : decode cX4_link 93 = .ok (.iconst 0, 1) := by decide +kernel
theorem dX4_link_94 : decode cX4_link 94 = .ok (.iadd, 1) := by decide +kernel
theorem dX4_link_95 : decode cX4_link 95 = .ok (.istore 4, 2) := by decide +kernel
theorem dX4_link_97 : decode cX4_link 97 = .ok (.iinc 5 1, 3) := by decide +kernel
theorem dX4_link_100 : decode cX4_link 100 = .ok (.goto (-32), 3) := by decide +kernel
theorem dX4_link_103 : decode cX4_link 103 = .ok (.iload 4, 2) := by decide +kernel
theorem dX4_link_105 : decode cX4_link 105 = .ok (.ireturn, 1) := by decide +kernel
theorem dX4_asks_0 : decode cX4_asks 0 = .ok (.aload_n 0, 1) := by decide +kernel
theorem dX4_asks_1 : decode cX4_asks 1 = .ok (.iload_n 1, 1) := by decide +kernel
theorem dX4_asks_2 : decode cX4_asks 2 = .ok (.invokestatic 70, 3) := by decide +kernel
theorem dX4_asks_5 : decode cX4_asks 5 = .ok (.ifCond .eq 7, 3) := by decide +kernel
theorem dX4_asks_8 : decode cX4_asks 8 = .ok (.iconst 0, 1) := by decide +kernel
theorem dX4_asks_9 : decode cX4_asks 9 = .ok (.goto 4, 3) := by decide +kernel
theorem dX4_asks_12 : decode cX4_asks 12 = .ok (.iconst 1, 1) := by decide +kernel
theorem dX4_asks_13 : decode cX4_asks 13 = .ok (.putfield 44, 3) := by decide +kernel
theorem dX4_asks_16 : decode cX4_asks 16 = .ok (.aload_n 0, 1) := by decide +kernel
theorem dX4_asks_17 : decode cX4_asks 17 = .ok (.getfield 44, 3) := by decide +kernel
theorem dX4_asks_20 : decode cX4_asks 20 = .ok (.ifCond .ne 7, 3) := by decide +kernel
theorem dX4_asks_23 : decode cX4_asks 23 = .ok (.iconst 1, 1) := by decide +kernel
theorem dX4_asks_24 : decode cX4_asks 24 = .ok (.goto 4, 3) := by decide +kernel
theorem dX4_asks_27 : decode cX4_asks 27 = .ok (.iconst 0, 1) := by decide +kernel
theorem dX4_asks_28 : decode cX4_asks 28 = .ok (.ireturn, 1) := by decide +kernel
theorem dX4_remove_0 : decode cX4_remove 0 = .ok (.aload_n 0, 1) := by decide +kernel
theorem dX4_remove_1 : decode cX4_remove 1 = .ok (.iload_n 1, 1) := by decide +kernel
theorem dX4_remove_2 : decode cX4_remove 2 = .ok (.invokevirtual 128, 3) := by decide +kernel
theorem dX4_remove_5 : decode cX4_remove 5 = .ok (.ifCond .ne 5, 3) := by decide +kernel
theorem dX4_remove_8 : decode cX4_remove 8 = .ok (.iconst (-1), 1) := by decide +kernel
theorem dX4_remove_9 : decode cX4_remove 9 = .ok (.ireturn, 1) := by decide +kernel
theorem dX4_remove_10 : decode cX4_remove 10 = .ok (.aload_n 0, 1) := by decide +kernel
theorem dX4_remove_11 : decode cX4_remove 11 = .ok (.iload_n 1, 1) := by decide +kernel
theorem dX4_remove_12 : decode cX4_remove 12 = .ok (.invokevirtual 107, 3) := by decide +kernel
theorem dX4_remove_15 : decode cX4_remove 15 = .ok (.istore_n 2, 1) := by decide +kernel
theorem dX4_remove_16 : decode cX4_remove 16 = .ok (.aload_n 0, 1) := by decide +kernel
theorem dX4_remove_17 : decode cX4_remove 17 = .ok (.iload_n 2, 1) := by decide +kernel
theorem dX4_remove_18 : decode cX4_remove 18 = .ok (.iconst (-1), 1) := by decide +kernel
theorem dX4_remove_19 : decode cX4_remove 19 = .ok (.if_icmp .ne 7, 3) := by decide +kernel
theorem dX4_remove_22 : decode cX4_remove 22 = .ok (.iconst 2, 1) := by decide +kernel
theorem dX4_remove_23 : decode cX4_remove 23 = .ok (.goto 4, 3) := by decide +kernel
theorem dX4_remove_26 : decode cX4_remove 26 = .ok (.iconst 0, 1) := by decide +kernel
theorem dX4_remove_27 : decode cX4_remove 27 = .ok (.putfield 44, 3) := by decide +kernel
theorem dX4_remove_30 : decode cX4_remove 30 = .ok (.aload_n 0, 1) := by decide +kernel
theorem dX4_remove_31 : decode cX4_remove 31 = .ok (.getfield 44, 3) := by decide +kernel
theorem dX4_remove_34 : decode cX4_remove 34 = .ok (.ifCond .le 5, 3) := by decide +kernel
theorem dX4_remove_37 : decode cX4_remove 37 = .ok (.iconst (-1), 1) := by decide +kernel
theorem dX4_remove_38 : decode cX4_remove 38 = .ok (.ireturn, 1) := by decide +kernel
theorem dX4_remove_39 : decode cX4_remove 39 = .ok (.aload_n 0, 1) := by decide +kernel
theorem dX4_remove_40 : decode cX4_remove 40 = .ok (.getfield 7, 3) := by decide +kernel
theorem dX4_remove_43 : decode cX4_remove 43 = .ok (.iload_n 2, 1) := by decide +kernel
theorem dX4_remove_44 : decode cX4_remove 44 = .ok (.iaload, 1) := by decide +kernel
theorem dX4_remove_45 : decode cX4_remove 45 = .ok (.iconst 1, 1) := by decide +kernel
theorem dX4_remove_46 : decode cX4_remove 46 = .ok (.if_icmp .ne 12, 3) := by decide +kernel
theorem dX4_remove_49 : decode cX4_remove 49 = .ok (.aload_n 0, 1) := by decide +kernel
theorem dX4_remove_50 : decode cX4_remove 50 = .ok (.getfield 16, 3) := by decide +kernel
theorem dX4_remove_53 : decode cX4_remove 53 = .ok (.iload_n 2, 1) := by decide +kernel
theorem dX4_remove_54 : decode cX4_remove 54 = .ok (.iaload, 1) := by decide +kernel
theorem dX4_remove_55 : decode cX4_remove 55 = .ok (.goto 4, 3) := by decide +kernel
theorem dX4_remove_58 : decode cX4_remove 58 = .ok (.iconst 0, 1) := by decide +kernel
theorem dX4_remove_59 : decode cX4_remove 59 = .ok (.istore_n 3, 1) := by decide +kernel
theorem dX4_remove_60 : decode cX4_remove 60 = .ok (.aload_n 0, 1) := by decide +kernel
theorem dX4_remove_61 : decode cX4_remove 61 = .ok (.iload_n 1, 1) := by decide +kernel
theorem dX4_remove_62 : decode cX4_remove 62 = .ok (.invokevirtual 90, 3) := by decide +kernel
theorem dX4_remove_65 : decode cX4_remove 65 = .ok (.istore 4, 2) := by decide +kernel
theorem dX4_remove_67 : decode cX4_remove 67 = .ok (.sipush 341, 3) := by decide +kernel
theorem dX4_remove_70 : decode cX4_remove 70 = .ok (.aload_n 0, 1) := by decide +kernel
theorem dX4_remove_71 : decode cX4_remove 71 = .ok (.getfield 22, 3) := by decide +kernel
theorem dX4_remove_74 : decode cX4_remove 74 = .ok (.iload 4, 2) := by decide +kernel
theorem dX4_remove_76 : decode cX4_remove 76 = .ok (.iaload, 1) := by decide +kernel
theorem dX4_remove_77 : decode cX4_remove 77 = .ok (.imul, 1) := by decide +kernel
theorem dX4_remove_78 : decode cX4_remove 78 = .ok (.iload_n 1, 1) := by decide +kernel
theorem dX4_remove_79 : decode cX4_remove 79 = .ok (.aload_n 0, 1) := by decide +kernel
theorem dX4_remove_80 : decode cX4_remove 80 = .ok (.getfield 19, 3) := by decide +kernel
theorem dX4_remove_83 : decode cX4_remove 83 = .ok (.iload 4, 2) := by decide +kernel
theorem dX4_remove_85 : decode cX4_remove 85 = .ok (.iaload, 1) := by decide +kernel
theorem dX4_remove_86 : decode cX4_remove 86 = .ok (.invokestatic 96, 3) := by decide +kernel
theorem dX4_remove_89 : decode cX4_remove 89 = .ok (.invokestatic 99, 3) := by decide +kernel
theorem dX4_remove_92 : decode cX4_remove 92 = .ok (.iadd, 1) := by decide +kernel
theorem dX4_remove_93 : decode cX4_remove 93 = .ok (.istore 5, 2) := by decide +kernel
theorem dX4_remove_95 : decode cX4_remove 95 = .ok (.aload_n 0, 1) := by decide +kernel
theorem dX4_remove_96 : decode cX4_remove 96 = .ok (.getfield 25, 3) := by decide +kernel
theorem dX4_remove_99 : decode cX4_remove 99 = .ok (.iload 4, 2) := by decide +kernel
theorem dX4_remove_101 : decode cX4_remove 101 = .ok (.iaload, 1) := by decide +kernel
theorem dX4_remove_102 : decode cX4_remove 102 = .ok (.iconst (-1), 1) := by decide +kernel
theorem dX4_remove_103 : decode cX4_remove 103 = .ok (.if_icmp .eq 29, 3) := by decide +kernel
theorem dX4_remove_106 : decode cX4_remove 106 = .ok (.aload_n 0, 1) := by decide +kernel
theorem dX4_remove_107 : decode cX4_remove 107 = .ok (.getfield 7, 3) := by decide +kernel
theorem dX4_remove_110 : decode cX4_remove 110 = .ok (.iload 5, 2) := by decide +kernel
theorem dX4_remove_112 : decode cX4_remove 112 = .ok (.iaload, 1) := by decide +kernel
theorem dX4_remove_113 : decode cX4_remove 113 = .ok (.iconst 1, 1) := by decide +kernel
theorem dX4_remove_114 : decode cX4_remove 114 = .ok (.if_icmp .eq 14, 3) := by decide +kernel
theorem dX4_remove_117 : decode cX4_remove 117 = .ok (.aload_n 0, 1) := by decide +kernel
theorem dX4_remove_118 : decode cX4_remove 118 = .ok (.getfield 7, 3) := by decide +kernel
theorem dX4_remove_121 : decode cX4_remove 121 = .ok (.iload 5, 2) := by decide +kernel
theorem dX4_remove_123 : decode cX4_remove 123 = .ok (.iaload, 1) := by decide +kernel
theorem dX4_remove_124 : decode cX4_remove 124 = .ok (.iconst 2, 1) := by decide +kernel
theorem dX4_remove_125 : decode cX4_remove 125 = .ok (.if_icmp .ne 7, 3) := by decide +kernel
theorem dX4_remove_128 : decode cX4_remove 128 = .ok (.iconst 1, 1) := by decide +kernel
theorem dX4_remove_129 : decode cX4_remove 129 = .ok (.goto 4, 3) := by decide +kernel
theorem dX4_remove_132 : decode cX4_remove 132 = .ok (.iconst 0, 1) := by decide +kernel
theorem dX4_remove_133 : decode cX4_remove 133 = .ok (.istore 6, 2) := by decide +kernel
theorem dX4_remove_135 : decode cX4_remove 135 = .ok (.aload_n 0, 1) := by decide +kernel
theorem dX4_remove_136 : decode cX4_remove 136 = .ok (.getfield 7, 3) := by decide +kernel
theorem dX4_remove_139 : decode cX4_remove 139 = .ok (.aload_n 0, 1) := by decide +kernel
theorem dX4_remove_140 : decode cX4_remove 140 = .ok (.iload_n 1, 1) := by decide +kernel
theorem dX4_remove_141 : decode cX4_remove 141 = .ok (.invokevirtual 104, 3) := by decide +kernel
theorem dX4_remove_144 : decode cX4_remove 144 = .ok (.iload 6, 2) := by decide +kernel
theorem dX4_remove_146 : decode cX4_remove 146 = .ok (.ifCond .eq 7, 3) := by decide +kernel
theorem dX4_remove_149 : decode cX4_remove 149 = .ok (.iconst 3, 1) := by decide +kernel
theorem dX4_remove_150 : decode cX4_remove 150 = .ok (.goto 4, 3) := by decide +kernel
theorem dX4_remove_153 : decode cX4_remove 153 = .ok (.iconst 0, 1) := by decide +kernel
theorem dX4_remove_154 : decode cX4_remove 154 = .ok (.iastore, 1) := by decide +kernel
theorem dX4_remove_155 : decode cX4_remove 155 = .ok (.iload_n 3, 1) := by decide +kernel
theorem dX4_remove_156 : decode cX4_remove 156 = .ok (.ireturn, 1) := by decide +kernel
theorem dX4_shows_0 : decode cX4_shows 0 = .ok (.aload_n 0, 1) := by decide +kernel
theorem dX4_shows_1 : decode cX4_shows 1 = .ok (.iload_n 1, 1) := by decide +kernel
theorem dX4_shows_2 : decode cX4_shows 2 = .ok (.invokevirtual 128, 3) := by decide +kernel
theorem dX4_shows_5 : decode cX4_shows 5 = .ok (.ifCond .ne 6, 3) := by decide +kernel
theorem dX4_shows_8 : decode cX4_shows 8 = .ok (.bipush 32, 2) := by decide +kernel
theorem dX4_shows_10 : decode cX4_shows 10 = .ok (.ireturn, 1) := by decide +kernel
theorem dX4_shows_11 : decode cX4_shows 11 = .ok (.aload_n 0, 1) := by decide +kernel
theorem dX4_shows_12 : decode cX4_shows 12 = .ok (.iload_n 1, 1) := by decide +kernel
theorem dX4_shows_13 : decode cX4_shows 13 = .ok (.invokevirtual 107, 3) := by decide +kernel
theorem dX4_shows_16 : decode cX4_shows 16 = .ok (.istore_n 2, 1) := by decide +kernel
theorem dX4_shows_17 : decode cX4_shows 17 = .ok (.iload_n 2, 1) := by decide +kernel
theorem dX4_shows_18 : decode cX4_shows 18 = .ok (.iconst (-1), 1) := by decide +kernel
theorem dX4_shows_19 : decode cX4_shows 19 = .ok (.if_icmp .ne 8, 3) := by decide +kernel
theorem dX4_shows_22 : decode cX4_shows 22 = .ok (.bipush 45, 2) := by decide +kernel
theorem dX4_shows_24 : decode cX4_shows 24 = .ok (.goto 20, 3) := by decide +kernel
theorem dX4_shows_27 : decode cX4_shows 27 = .ok (.aload_n 0, 1) := by decide +kernel
theorem dX4_shows_28 : decode cX4_shows 28 = .ok (.getfield 7, 3) := by decide +kernel
theorem dX4_shows_31 : decode cX4_shows 31 = .ok (.iload_n 2, 1) := by decide +kernel
theorem dX4_shows_32 : decode cX4_shows 32 = .ok (.iaload, 1) := by decide +kernel
theorem dX4_shows_33 : decode cX4_shows 33 = .ok (.iconst 1, 1) := by decide +kernel
theorem dX4_shows_34 : decode cX4_shows 34 = .ok (.if_icmp .ne 8, 3) := by decide +kernel
theorem dX4_shows_37 : decode cX4_shows 37 = .ok (.bipush 102, 2) := by decide +kernel
theorem dX4_shows_39 : decode cX4_shows 39 = .ok (.goto 5, 3) := by decide +kernel
theorem dX4_shows_42 : decode cX4_shows 42 = .ok (.bipush 108, 2) := by decide +kernel
theorem dX4_shows_44 : decode cX4_shows 44 = .ok (.ireturn, 1) := by decide +kernel
theorem dX4_asksShown_0 : decode cX4_asksShown 0 = .ok (.aload_n 0, 1) := by decide +kernel
theorem dX4_asksShown_1 : decode cX4_asksShown 1 = .ok (.iload_n 1, 1) := by decide +kernel
theorem dX4_asksShown_2 : decode cX4_asksShown 2 = .ok (.invokevirtual 128, 3) := by decide +kernel
theorem dX4_asksShown_5 : decode cX4_asksShown 5 = .ok (.ifCond .eq 21, 3) := by decide +kernel
theorem dX4_asksShown_8 : decode cX4_asksShown 8 = .ok (.aload_n 0, 1) := by decide +kernel
theorem dX4_asksShown_9 : decode cX4_asksShown 9 = .ok (.aload_n 0, 1) := by decide +kernel
theorem dX4_asksShown_10 : decode cX4_asksShown 10 = .ok (.iload_n 1, 1) := by decide +kernel
theorem dX4_asksShown_11 : decode cX4_asksShown 11 = .ok (.invokevirtual 107, 3) := by decide +kernel
theorem dX4_asksShown_14 : decode cX4_asksShown 14 = .ok (.iconst (-1), 1) := by decide +kernel
theorem dX4_asksShown_15 : decode cX4_asksShown 15 = .ok (.if_icmp .ne 7, 3) := by decide +kernel
theorem dX4_asksShown_18 : decode cX4_asksShown 18 = .ok (.iconst 2, 1) := by decide +kernel
theorem dX4_asksShown_19 : decode cX4_asksShown 19 = .ok (.goto 4, 3) := by decide +kernel
theorem dX4_asksShown_22 : decode cX4_asksShown 22 = .ok (.iconst 0, 1) := by decide +kernel
theorem dX4_asksShown_23 : decode cX4_asksShown 23 = .ok (.putfield 44, 3) := by decide +kernel
theorem dX4_asksShown_26 : decode cX4_asksShown 26 = .ok (.aload_n 0, 1) := by decide +kernel
theorem dX4_asksShown_27 : decode cX4_asksShown 27 = .ok (.getfield 44, 3) := by decide +kernel
theorem dX4_asksShown_30 : decode cX4_asksShown 30 = .ok (.ifCond .ne 7, 3) := by decide +kernel
theorem dX4_asksShown_33 : decode cX4_asksShown 33 = .ok (.iconst 1, 1) := by decide +kernel
theorem dX4_asksShown_34 : decode cX4_asksShown 34 = .ok (.goto 4, 3) := by decide +kernel
theorem dX4_asksShown_37 : decode cX4_asksShown 37 = .ok (.iconst 0, 1) := by decide +kernel
theorem dX4_asksShown_38 : decode cX4_asksShown 38 = .ok (.ireturn, 1) := by decide +kernel
theorem dX4_layerOf_0 : decode cX4_layerOf 0 = .ok (.aload_n 0, 1) := by decide +kernel
theorem dX4_layerOf_1 : decode cX4_layerOf 1 = .ok (.iload_n 1, 1) := by decide +kernel
theorem dX4_layerOf_2 : decode cX4_layerOf 2 = .ok (.invokevirtual 131, 3) := by decide +kernel
theorem dX4_layerOf_5 : decode cX4_layerOf 5 = .ok (.ifCond .eq 15, 3) := by decide +kernel
theorem dX4_layerOf_8 : decode cX4_layerOf 8 = .ok (.aload_n 0, 1) := by decide +kernel
theorem dX4_layerOf_9 : decode cX4_layerOf 9 = .ok (.iload_n 1, 1) := by decide +kernel
theorem dX4_layerOf_10 : decode cX4_layerOf 10 = .ok (.invokevirtual 107, 3) := by decide +kernel
theorem dX4_layerOf_13 : decode cX4_layerOf 13 = .ok (.sipush 341, 3) := by decide +kernel
theorem dX4_layerOf_16 : decode cX4_layerOf 16 = .ok (.idiv, 1) := by decide +kernel
theorem dX4_layerOf_17 : decode cX4_layerOf 17 = .ok (.goto 4, 3) := by decide +kernel
theorem dX4_layerOf_20 : decode cX4_layerOf 20 = .ok (.iconst (-1), 1) := by decide +kernel
theorem dX4_layerOf_21 : decode cX4_layerOf 21 = .ok (.ireturn, 1) := by decide +kernel
theorem dX4_end_0 : decode cX4_end 0 = .ok (.aload_n 0, 1) := by decide +kernel
theorem dX4_end_1 : decode cX4_end 1 = .ok (.iload_n 1, 1) := by decide +kernel
theorem dX4_end_2 : decode cX4_end 2 = .ok (.invokevirtual 128, 3) := by decide +kernel
theorem dX4_end_5 : decode cX4_end 5 = .ok (.ifCond .ne 5, 3) := by decide +kernel
theorem dX4_end_8 : decode cX4_end 8 = .ok (.iconst (-1), 1) := by decide +kernel
theorem dX4_end_9 : decode cX4_end 9 = .ok (.ireturn, 1) := by decide +kernel
theorem dX4_end_10 : decode cX4_end 10 = .ok (.iload_n 1, 1) := by decide +kernel
theorem dX4_end_11 : decode cX4_end 11 = .ok (.istore_n 2, 1) := by decide +kernel
theorem dX4_end_12 : decode cX4_end 12 = .ok (.iconst 0, 1) := by decide +kernel
theorem dX4_end_13 : decode cX4_end 13 = .ok (.istore_n 3, 1) := by decide +kernel
theorem dX4_end_14 : decode cX4_end 14 = .ok (.aload_n 0, 1) := by decide +kernel
theorem dX4_end_15 : decode cX4_end 15 = .ok (.iload_n 2, 1) := by decide +kernel
theorem dX4_end_16 : decode cX4_end 16 = .ok (.invokevirtual 107, 3) := by decide +kernel
theorem dX4_end_19 : decode cX4_end 19 = .ok (.iconst (-1), 1) := by decide +kernel
theorem dX4_end_20 : decode cX4_end 20 = .ok (.if_icmp .eq 104, 3) := by decide +kernel
theorem dX4_end_23 : decode cX4_end 23 = .ok (.aload_n 0, 1) := by decide +kernel
theorem dX4_end_24 : decode cX4_end 24 = .ok (.getfield 7, 3) := by decide +kernel
theorem dX4_end_27 : decode cX4_end 27 = .ok (.aload_n 0, 1) := by decide +kernel
theorem dX4_end_28 : decode cX4_end 28 = .ok (.iload_n 2, 1) := by decide +kernel
theorem dX4_end_29 : decode cX4_end 29 = .ok (.invokevirtual 107, 3) := by decide +kernel
theorem dX4_end_32 : decode cX4_end 32 = .ok (.iaload, 1) := by decide +kernel
theorem dX4_end_33 : decode cX4_end 33 = .ok (.iconst 2, 1) := by decide +kernel
theorem dX4_end_34 : decode cX4_end 34 = .ok (.if_icmp .ne 90, 3) := by decide +kernel
theorem dX4_end_37 : decode cX4_end 37 = .ok (.aload_n 0, 1) := by decide +kernel
theorem dX4_end_38 : decode cX4_end 38 = .ok (.getfield 16, 3) := by decide +kernel
theorem dX4_end_41 : decode cX4_end 41 = .ok (.aload_n 0, 1) := by decide +kernel
theorem dX4_end_42 : decode cX4_end 42 = .ok (.iload_n 2, 1) := by decide +kernel
theorem dX4_end_43 : decode cX4_end 43 = .ok (.invokevirtual 107, 3) := by decide +kernel
theorem dX4_end_46 : decode cX4_end 46 = .ok (.iaload, 1) := by decide +kernel
theorem dX4_end_47 : decode cX4_end 47 = .ok (.istore 4, 2) := by decide +kernel
theorem dX4_end_49 : decode cX4_end 49 = .ok (.aload_n 0, 1) := by decide +kernel
theorem dX4_end_50 : decode cX4_end 50 = .ok (.iload 4, 2) := by decide +kernel
theorem dX4_end_52 : decode cX4_end 52 = .ok (.invokevirtual 90, 3) := by decide +kernel
theorem dX4_end_55 : decode cX4_end 55 = .ok (.aload_n 0, 1) := by decide +kernel
theorem dX4_end_56 : decode cX4_end 56 = .ok (.iload_n 2, 1) := by decide +kernel
theorem dX4_end_57 : decode cX4_end 57 = .ok (.invokevirtual 90, 3) := by decide +kernel
theorem dX4_end_60 : decode cX4_end 60 = .ok (.if_icmp .eq 16, 3) := by decide +kernel
theorem dX4_end_63 : decode cX4_end 63 = .ok (.aload_n 0, 1) := by decide +kernel
theorem dX4_end_64 : decode cX4_end 64 = .ok (.getfield 32, 3) := by decide +kernel
theorem dX4_end_67 : decode cX4_end 67 = .ok (.aload_n 0, 1) := by decide +kernel
theorem dX4_end_68 : decode cX4_end 68 = .ok (.iload_n 2, 1) := by decide +kernel
theorem dX4_end_69 : decode cX4_end 69 = .ok (.invokevirtual 90, 3) := by decide +kernel
theorem dX4_end_72 : decode cX4_end 72 = .ok (.baload, 1) := by decide +kernel
theorem dX4_end_73 : decode cX4_end 73 = .ok (.ifCond .eq 7, 3) := by decide +kernel
theorem dX4_end_76 : decode cX4_end 76 = .ok (.iconst 1, 1) := by decide +kernel
theorem dX4_end_77 : decode cX4_end 77 = .ok (.goto 4, 3) := by decide +kernel
theorem dX4_end_80 : decode cX4_end 80 = .ok (.iconst 0, 1) := by decide +kernel
theorem dX4_end_81 : decode cX4_end 81 = .ok (.istore 5, 2) := by decide +kernel
theorem dX4_end_83 : decode cX4_end 83 = .ok (.aload_n 0, 1) := by decide +kernel
theorem dX4_end_84 : decode cX4_end 84 = .ok (.iload 5, 2) := by decide +kernel
theorem dX4_end_86 : decode cX4_end 86 = .ok (.ifCond .ne 7, 3) := by decide +kernel
theorem dX4_end_89 : decode cX4_end 89 = .ok (.iconst 2, 1) := by decide +kernel
theorem dX4_end_90 : decode cX4_end 90 = .ok (.goto 13, 3) := by decide +kernel
theorem dX4_end_93 : decode cX4_end 93 = .ok (.iload_n 3, 1) := by decide +kernel
theorem dX4_end_94 : decode cX4_end 94 = .ok (.iconst 4, 1) := by decide +kernel
theorem dX4_end_95 : decode cX4_end 95 = .ok (.if_icmp .ne 7, 3) := by decide +kernel
theorem dX4_end_98 : decode cX4_end 98 = .ok (.iconst 3, 1) := by decide +kernel
theorem dX4_end_99 : decode cX4_end 99 = .ok (.goto 4, 3) := by decide +kernel
theorem dX4_end_102 : decode cX4_end 102 = .ok (.iconst 0, 1) := by decide +kernel
theorem dX4_end_103 : decode cX4_end 103 = .ok (.putfield 44, 3) := by decide +kernel
theorem dX4_end_106 : decode cX4_end 106 = .ok (.aload_n 0, 1) := by decide +kernel
theorem dX4_end_107 : decode cX4_end 107 = .ok (.getfield 44, 3) := by decide +kernel
theorem dX4_end_110 : decode cX4_end 110 = .ok (.ifCond .le 5, 3) := by decide +kernel
theorem dX4_end_113 : decode cX4_end 113 = .ok (.iconst (-1), 1) := by decide +kernel
theorem dX4_end_114 : decode cX4_end 114 = .ok (.ireturn, 1) := by decide +kernel
theorem dX4_end_115 : decode cX4_end 115 = .ok (.iload 4, 2) := by decide +kernel
theorem dX4_end_117 : decode cX4_end 117 = .ok (.istore_n 2, 1) := by decide +kernel
theorem dX4_end_118 : decode cX4_end 118 = .ok (.iinc 3 1, 3) := by decide +kernel
theorem dX4_end_121 : decode cX4_end 121 = .ok (.goto (-107), 3) := by decide +kernel
theorem dX4_end_124 : decode cX4_end 124 = .ok (.iload_n 2, 1) := by decide +kernel
theorem dX4_end_125 : decode cX4_end 125 = .ok (.ireturn, 1) := by decide +kernel
theorem dX4_size_0 : decode cX4_size 0 = .ok (.aload_n 0, 1) := by decide +kernel
theorem dX4_size_1 : decode cX4_size 1 = .ok (.iload_n 1, 1) := by decide +kernel
theorem dX4_size_2 : decode cX4_size 2 = .ok (.invokevirtual 134, 3) := by decide +kernel
theorem dX4_size_5 : decode cX4_size 5 = .ok (.istore_n 2, 1) := by decide +kernel
theorem dX4_size_6 : decode cX4_size 6 = .ok (.aload_n 0, 1) := by decide +kernel
theorem dX4_size_7 : decode cX4_size 7 = .ok (.getfield 44, 3) := by decide +kernel
theorem dX4_size_10 : decode cX4_size 10 = .ok (.ifCond .le 5, 3) := by decide +kernel
theorem dX4_size_13 : decode cX4_size 13 = .ok (.iconst (-1), 1) := by decide +kernel
theorem dX4_size_14 : decode cX4_size 14 = .ok (.ireturn, 1) := by decide +kernel
theorem dX4_size_15 : decode cX4_size 15 = .ok (.aload_n 0, 1) := by decide +kernel
theorem dX4_size_16 : decode cX4_size 16 = .ok (.iload_n 2, 1) := by decide +kernel
theorem dX4_size_17 : decode cX4_size 17 = .ok (.invokevirtual 107, 3) := by decide +kernel
theorem dX4_size_20 : decode cX4_size 20 = .ok (.istore_n 3, 1) := by decide +kernel
theorem dX4_size_21 : decode cX4_size 21 = .ok (.aload_n 0, 1) := by decide +kernel
theorem dX4_size_22 : decode cX4_size 22 = .ok (.iload_n 3, 1) := by decide +kernel
theorem dX4_size_23 : decode cX4_size 23 = .ok (.iconst (-1), 1) := by decide +kernel
theorem dX4_size_24 : decode cX4_size 24 = .ok (.if_icmp .ne 7, 3) := by decide +kernel
theorem dX4_size_27 : decode cX4_size 27 = .ok (.iconst 4, 1) := by decide +kernel
theorem dX4_size_28 : decode cX4_size 28 = .ok (.goto 4, 3) := by decide +kernel
theorem dX4_size_31 : decode cX4_size 31 = .ok (.iconst 0, 1) := by decide +kernel
theorem dX4_size_32 : decode cX4_size 32 = .ok (.putfield 44, 3) := by decide +kernel
theorem dX4_size_35 : decode cX4_size 35 = .ok (.aload_n 0, 1) := by decide +kernel
theorem dX4_size_36 : decode cX4_size 36 = .ok (.getfield 44, 3) := by decide +kernel
theorem dX4_size_39 : decode cX4_size 39 = .ok (.ifCond .ne 12, 3) := by decide +kernel
theorem dX4_size_42 : decode cX4_size 42 = .ok (.aload_n 0, 1) := by decide +kernel
theorem dX4_size_43 : decode cX4_size 43 = .ok (.getfield 16, 3) := by decide +kernel
theorem dX4_size_46 : decode cX4_size 46 = .ok (.iload_n 3, 1) := by decide +kernel
theorem dX4_size_47 : decode cX4_size 47 = .ok (.iaload, 1) := by decide +kernel
theorem dX4_size_48 : decode cX4_size 48 = .ok (.goto 4, 3) := by decide +kernel
theorem dX4_size_51 : decode cX4_size 51 = .ok (.iconst (-1), 1) := by decide +kernel
theorem dX4_size_52 : decode cX4_size 52 = .ok (.ireturn, 1) := by decide +kernel
theorem dX4_sizeByWalking_0 : decode cX4_sizeByWalking 0 = .ok (.aload_n 0, 1) := by decide +kernel
theorem dX4_sizeByWalking_1 : decode cX4_sizeByWalking 1 = .ok (.iload_n 1, 1) := by decide +kernel
theorem dX4_sizeByWalking_2 : decode cX4_sizeByWalking 2 = .ok (.invokevirtual 128, 3) := by decide +kernel
theorem dX4_sizeByWalking_5 : decode cX4_sizeByWalking 5 = .ok (.ifCond .ne 5, 3) := by decide +kernel
theorem dX4_sizeByWalking_8 : decode cX4_sizeByWalking 8 = .ok (.iconst (-1), 1) := by decide +kernel
theorem dX4_sizeByWalking_9 : decode cX4_sizeByWalking 9 = .ok (.ireturn, 1) := by decide +kernel
theorem dX4_sizeByWalking_10 : decode cX4_sizeByWalking 10 = .ok (.aload_n 0, 1) := by decide +kernel
theorem dX4_sizeByWalking_11 : decode cX4_sizeByWalking 11 = .ok (.iload_n 1, 1) := by decide +kernel
theorem dX4_sizeByWalking_12 : decode cX4_sizeByWalking 12 = .ok (.invokevirtual 107, 3) := by decide +kernel
theorem dX4_sizeByWalking_15 : decode cX4_sizeByWalking 15 = .ok (.istore_n 2, 1) := by decide +kernel
theorem dX4_sizeByWalking_16 : decode cX4_sizeByWalking 16 = .ok (.iload_n 2, 1) := by decide +kernel
theorem dX4_sizeByWalking_17 : decode cX4_sizeByWalking 17 = .ok (.iconst (-1), 1) := by decide +kernel
theorem dX4_sizeByWalking_18 : decode cX4_sizeByWalking 18 = .ok (.if_icmp .eq 22, 3) := by decide +kernel
theorem dX4_sizeByWalking_21 : decode cX4_sizeByWalking 21 = .ok (.aload_n 0, 1) := by decide +kernel
theorem dX4_sizeByWalking_22 : decode cX4_sizeByWalking 22 = .ok (.getfield 7, 3) := by decide +kernel
theorem dX4_sizeByWalking_25 : decode cX4_sizeByWalking 25 = .ok (.iload_n 2, 1) := by decide +kernel
theorem dX4_sizeByWalking_26 : decode cX4_sizeByWalking 26 = .ok (.iaload, 1) := by decide +kernel
theorem dX4_sizeByWalking_27 : decode cX4_sizeByWalking 27 = .ok (.iconst 1, 1) := by decide +kernel
theorem dX4_sizeByWalking_28 : decode cX4_sizeByWalking 28 = .ok (.if_icmp .ne 12, 3) := by decide +kernel
theorem dX4_sizeByWalking_31 : decode cX4_sizeByWalking 31 = .ok (.aload_n 0, 1) := by decide +kernel
theorem dX4_sizeByWalking_32 : decode cX4_sizeByWalking 32 = .ok (.getfield 16, 3) := by decide +kernel
theorem dX4_sizeByWalking_35 : decode cX4_sizeByWalking 35 = .ok (.iload_n 2, 1) := by decide +kernel
theorem dX4_sizeByWalking_36 : decode cX4_sizeByWalking 36 = .ok (.iaload, 1) := by decide +kernel
theorem dX4_sizeByWalking_37 : decode cX4_sizeByWalking 37 = .ok (.goto 4, 3) := by decide +kernel
theorem dX4_sizeByWalking_40 : decode cX4_sizeByWalking 40 = .ok (.iconst (-1), 1) := by decide +kernel
theorem dX4_sizeByWalking_41 : decode cX4_sizeByWalking 41 = .ok (.ireturn, 1) := by decide +kernel
theorem dX4_ownerOf_0 : decode cX4_ownerOf 0 = .ok (.aload_n 0, 1) := by decide +kernel
theorem dX4_ownerOf_1 : decode cX4_ownerOf 1 = .ok (.iload_n 1, 1) := by decide +kernel
theorem dX4_ownerOf_2 : decode cX4_ownerOf 2 = .ok (.invokevirtual 131, 3) := by decide +kernel
theorem dX4_ownerOf_5 : decode cX4_ownerOf 5 = .ok (.ifCond .eq 16, 3) := by decide +kernel
theorem dX4_ownerOf_8 : decode cX4_ownerOf 8 = .ok (.aload_n 0, 1) := by decide +kernel
theorem dX4_ownerOf_9 : decode cX4_ownerOf 9 = .ok (.getfield 13, 3) := by decide +kernel
theorem dX4_ownerOf_12 : decode cX4_ownerOf 12 = .ok (.aload_n 0, 1) := by decide +kernel
theorem dX4_ownerOf_13 : decode cX4_ownerOf 13 = .ok (.iload_n 1, 1) := by decide +kernel
theorem dX4_ownerOf_14 : decode cX4_ownerOf 14 = .ok (.invokevirtual 107, 3) := by decide +kernel
theorem dX4_ownerOf_17 : decode cX4_ownerOf 17 = .ok (.iaload, 1) := by decide +kernel
theorem dX4_ownerOf_18 : decode cX4_ownerOf 18 = .ok (.goto 4, 3) := by decide +kernel
theorem dX4_ownerOf_21 : decode cX4_ownerOf 21 = .ok (.iconst (-1), 1) := by decide +kernel
theorem dX4_ownerOf_22 : decode cX4_ownerOf 22 = .ok (.ireturn, 1) := by decide +kernel
theorem dX4_setQuota_0 : decode cX4_setQuota 0 = .ok (.aload_n 0, 1) := by decide +kernel
theorem dX4_setQuota_1 : decode cX4_setQuota 1 = .ok (.iload_n 1, 1) := by decide +kernel
theorem dX4_setQuota_2 : decode cX4_setQuota 2 = .ok (.invokestatic 113, 3) := by decide +kernel
theorem dX4_setQuota_5 : decode cX4_setQuota 5 = .ok (.ifCond .eq 19, 3) := by decide +kernel
theorem dX4_setQuota_8 : decode cX4_setQuota 8 = .ok (.iload_n 2, 1) := by decide +kernel
theorem dX4_setQuota_9 : decode cX4_setQuota 9 = .ok (.i2l, 1) := by decide +kernel
theorem dX4_setQuota_10 : decode cX4_setQuota 10 = .ok (.lconst 0, 1) := by decide +kernel
theorem dX4_setQuota_11 : decode cX4_setQuota 11 = .ok (.ldc2_w 137, 3) := by decide +kernel
theorem dX4_setQuota_14 : decode cX4_setQuota 14 = .ok (.invokestatic 50, 3) := by decide +kernel
theorem dX4_setQuota_17 : decode cX4_setQuota 17 = .ok (.ifCond .eq 7, 3) := by decide +kernel
theorem dX4_setQuota_20 : decode cX4_setQuota 20 = .ok (.iconst 0, 1) := by decide +kernel
theorem dX4_setQuota_21 : decode cX4_setQuota 21 = .ok (.goto 4, 3) := by decide +kernel
theorem dX4_setQuota_24 : decode cX4_setQuota 24 = .ok (.iconst 1, 1) := by decide +kernel
theorem dX4_setQuota_25 : decode cX4_setQuota 25 = .ok (.putfield 44, 3) := by decide +kernel
theorem dX4_setQuota_28 : decode cX4_setQuota 28 = .ok (.aload_n 0, 1) := by decide +kernel
theorem dX4_setQuota_29 : decode cX4_setQuota 29 = .ok (.getfield 44, 3) := by decide +kernel
theorem dX4_setQuota_32 : decode cX4_setQuota 32 = .ok (.ifCond .le 5, 3) := by decide +kernel
theorem dX4_setQuota_35 : decode cX4_setQuota 35 = .ok (.iconst (-1), 1) := by decide +kernel
theorem dX4_setQuota_36 : decode cX4_setQuota 36 = .ok (.ireturn, 1) := by decide +kernel
theorem dX4_setQuota_37 : decode cX4_setQuota 37 = .ok (.aload_n 0, 1) := by decide +kernel
theorem dX4_setQuota_38 : decode cX4_setQuota 38 = .ok (.getfield 35, 3) := by decide +kernel
theorem dX4_setQuota_41 : decode cX4_setQuota 41 = .ok (.iload_n 1, 1) := by decide +kernel
theorem dX4_setQuota_42 : decode cX4_setQuota 42 = .ok (.iaload, 1) := by decide +kernel
theorem dX4_setQuota_43 : decode cX4_setQuota 43 = .ok (.istore_n 3, 1) := by decide +kernel
theorem dX4_setQuota_44 : decode cX4_setQuota 44 = .ok (.aload_n 0, 1) := by decide +kernel
theorem dX4_setQuota_45 : decode cX4_setQuota 45 = .ok (.getfield 35, 3) := by decide +kernel
theorem dX4_setQuota_48 : decode cX4_setQuota 48 = .ok (.iload_n 1, 1) := by decide +kernel
theorem dX4_setQuota_49 : decode cX4_setQuota 49 = .ok (.iload_n 2, 1) := by decide +kernel
theorem dX4_setQuota_50 : decode cX4_setQuota 50 = .ok (.iastore, 1) := by decide +kernel
theorem dX4_setQuota_51 : decode cX4_setQuota 51 = .ok (.iload_n 3, 1) := by decide +kernel
theorem dX4_setQuota_52 : decode cX4_setQuota 52 = .ok (.ireturn, 1) := by decide +kernel
theorem dX4_used__0 : decode cX4_used_ 0 = .ok (.aload_n 0, 1) := by decide +kernel
theorem dX4_used__1 : decode cX4_used_ 1 = .ok (.iload_n 1, 1) := by decide +kernel
theorem dX4_used__2 : decode cX4_used_ 2 = .ok (.invokestatic 113, 3) := by decide +kernel
theorem dX4_used__5 : decode cX4_used_ 5 = .ok (.ifCond .eq 7, 3) := by decide +kernel
theorem dX4_used__8 : decode cX4_used_ 8 = .ok (.iconst 0, 1) := by decide +kernel
theorem dX4_used__9 : decode cX4_used_ 9 = .ok (.goto 4, 3) := by decide +kernel
theorem dX4_used__12 : decode cX4_used_ 12 = .ok (.iconst 1, 1) := by decide +kernel
theorem dX4_used__13 : decode cX4_used_ 13 = .ok (.putfield 44, 3) := by decide +kernel
theorem dX4_used__16 : decode cX4_used_ 16 = .ok (.aload_n 0, 1) := by decide +kernel
theorem dX4_used__17 : decode cX4_used_ 17 = .ok (.getfield 44, 3) := by decide +kernel
theorem dX4_used__20 : decode cX4_used_ 20 = .ok (.ifCond .ne 12, 3) := by decide +kernel
theorem dX4_used__23 : decode cX4_used_ 23 = .ok (.aload_n 0, 1) := by decide +kernel
theorem dX4_used__24 : decode cX4_used_ 24 = .ok (.iload_n 1, 1) := by decide +kernel
theorem dX4_used__25 : decode cX4_used_ 25 = .ok (.iconst (-1), 1) := by decide +kernel
theorem dX4_used__26 : decode cX4_used_ 26 = .ok (.invokevirtual 121, 3) := by decide +kernel
theorem dX4_used__29 : decode cX4_used_ 29 = .ok (.goto 4, 3) := by decide +kernel
theorem dX4_used__32 : decode cX4_used_ 32 = .ok (.iconst (-1), 1) := by decide +kernel
theorem dX4_used__33 : decode cX4_used_ 33 = .ok (.ireturn, 1) := by decide +kernel
theorem dX4_usedByLayers_0 : decode cX4_usedByLayers 0 = .ok (.aload_n 0, 1) := by decide +kernel
theorem dX4_usedByLayers_1 : decode cX4_usedByLayers 1 = .ok (.iload_n 1, 1) := by decide +kernel
theorem dX4_usedByLayers_2 : decode cX4_usedByLayers 2 = .ok (.invokevirtual 139, 3) := by decide +kernel
theorem dX4_usedByLayers_5 : decode cX4_usedByLayers 5 = .ok (.ireturn, 1) := by decide +kernel
theorem dX4_bytesOfAll_0 : decode cX4_bytesOfAll 0 = .ok (.aload_n 0, 1) := by decide +kernel
theorem dX4_bytesOfAll_1 : decode cX4_bytesOfAll 1 = .ok (.iconst 0, 1) := by decide +kernel
theorem dX4_bytesOfAll_2 : decode cX4_bytesOfAll 2 = .ok (.iconst (-1), 1) := by decide +kernel
theorem dX4_bytesOfAll_3 : decode cX4_bytesOfAll 3 = .ok (.invokevirtual 121, 3) := by decide +kernel
theorem dX4_bytesOfAll_6 : decode cX4_bytesOfAll 6 = .ok (.aload_n 0, 1) := by decide +kernel
theorem dX4_bytesOfAll_7 : decode cX4_bytesOfAll 7 = .ok (.iconst 1, 1) := by decide +kernel
theorem dX4_bytesOfAll_8 : decode cX4_bytesOfAll 8 = .ok (.iconst (-1), 1) := by decide +kernel
theorem dX4_bytesOfAll_9 : decode cX4_bytesOfAll 9 = .ok (.invokevirtual 121, 3) := by decide +kernel
theorem dX4_bytesOfAll_12 : decode cX4_bytesOfAll 12 = .ok (.iadd, 1) := by decide +kernel
theorem dX4_bytesOfAll_13 : decode cX4_bytesOfAll 13 = .ok (.aload_n 0, 1) := by decide +kernel
theorem dX4_bytesOfAll_14 : decode cX4_bytesOfAll 14 = .ok (.iconst 2, 1) := by decide +kernel
theorem dX4_bytesOfAll_15 : decode cX4_bytesOfAll 15 = .ok (.iconst (-1), 1) := by decide +kernel
theorem dX4_bytesOfAll_16 : decode cX4_bytesOfAll 16 = .ok (.invokevirtual 121, 3) := by decide +kernel
theorem dX4_bytesOfAll_19 : decode cX4_bytesOfAll 19 = .ok (.iadd, 1) := by decide +kernel
theorem dX4_bytesOfAll_20 : decode cX4_bytesOfAll 20 = .ok (.aload_n 0, 1) := by decide +kernel
theorem dX4_bytesOfAll_21 : decode cX4_bytesOfAll 21 = .ok (.iconst 3, 1) := by decide +kernel
theorem dX4_bytesOfAll_22 : decode cX4_bytesOfAll 22 = .ok (.iconst (-1), 1) := by decide +kernel
theorem dX4_bytesOfAll_23 : decode cX4_bytesOfAll 23 = .ok (.invokevirtual 121, 3) := by decide +kernel
theorem dX4_bytesOfAll_26 : decode cX4_bytesOfAll 26 = .ok (.iadd, 1) := by decide +kernel
theorem dX4_bytesOfAll_27 : decode cX4_bytesOfAll 27 = .ok (.ireturn, 1) := by decide +kernel
theorem dX4_bytesShown_0 : decode cX4_bytesShown 0 = .ok (.iconst 0, 1) := by decide +kernel
theorem dX4_bytesShown_1 : decode cX4_bytesShown 1 = .ok (.istore_n 1, 1) := by decide +kernel
theorem dX4_bytesShown_2 : decode cX4_bytesShown 2 = .ok (.iconst 0, 1) := by decide +kernel
theorem dX4_bytesShown_3 : decode cX4_bytesShown 3 = .ok (.istore_n 2, 1) := by decide +kernel
theorem dX4_bytesShown_4 : decode cX4_bytesShown 4 = .ok (.iload_n 2, 1) := by decide +kernel
theorem dX4_bytesShown_5 : decode cX4_bytesShown 5 = .ok (.sipush 2046, 3) := by decide +kernel
theorem dX4_bytesShown_8 : decode cX4_bytesShown 8 = .ok (.if_icmp .ge 78, 3) := by decide +kernel
theorem dX4_bytesShown_11 : decode cX4_bytesShown 11 = .ok (.iconst 0, 1) := by decide +kernel
theorem dX4_bytesShown_12 : decode cX4_bytesShown 12 = .ok (.istore_n 3, 1) := by decide +kernel
theorem dX4_bytesShown_13 : decode cX4_bytesShown 13 = .ok (.iconst 1, 1) := by decide +kernel
theorem dX4_bytesShown_14 : decode cX4_bytesShown 14 = .ok (.istore 4, 2) := by decide +kernel
theorem dX4_bytesShown_16 : decode cX4_bytesShown 16 = .ok (.iload 4, 2) := by decide +kernel
theorem dX4_bytesShown_18 : decode cX4_bytesShown 18 = .ok (.sipush 341, 3) := by decide +kernel
theorem dX4_bytesShown_21 : decode cX4_bytesShown 21 = .ok (.if_icmp .ge 42, 3) := by decide +kernel
theorem dX4_bytesShown_24 : decode cX4_bytesShown 24 = .ok (.aload_n 0, 1) := by decide +kernel
theorem dX4_bytesShown_25 : decode cX4_bytesShown 25 = .ok (.getfield 7, 3) := by decide +kernel
theorem dX4_bytesShown_28 : decode cX4_bytesShown 28 = .ok (.iload_n 2, 1) := by decide +kernel
theorem dX4_bytesShown_29 : decode cX4_bytesShown 29 = .ok (.iaload, 1) := by decide +kernel
theorem dX4_bytesShown_30 : decode cX4_bytesShown 30 = .ok (.iconst 1, 1) := by decide +kernel
theorem dX4_bytesShown_31 : decode cX4_bytesShown 31 = .ok (.if_icmp .ne 32, 3) := by decide +kernel
theorem dX4_bytesShown_34 : decode cX4_bytesShown 34 = .ok (.iload_n 3, 1) := by decide +kernel
theorem dX4_bytesShown_35 : decode cX4_bytesShown 35 = .ok (.ifCond .ne 28, 3) := by decide +kernel
theorem dX4_bytesShown_38 : decode cX4_bytesShown 38 = .ok (.aload_n 0, 1) := by decide +kernel
theorem dX4_bytesShown_39 : decode cX4_bytesShown 39 = .ok (.iload 4, 2) := by decide +kernel
theorem dX4_bytesShown_41 : decode cX4_bytesShown 41 = .ok (.invokestatic 93, 3) := by decide +kernel
theorem dX4_bytesShown_44 : decode cX4_bytesShown 44 = .ok (.invokevirtual 107, 3) := by decide +kernel
theorem dX4_bytesShown_47 : decode cX4_bytesShown 47 = .ok (.iload_n 2, 1) := by decide +kernel
theorem dX4_bytesShown_48 : decode cX4_bytesShown 48 = .ok (.if_icmp .ne 7, 3) := by decide +kernel
theorem dX4_bytesShown_51 : decode cX4_bytesShown 51 = .ok (.iconst 1, 1) := by decide +kernel
theorem dX4_bytesShown_52 : decode cX4_bytesShown 52 = .ok (.goto 4, 3) := by decide +kernel
theorem dX4_bytesShown_55 : decode cX4_bytesShown 55 = .ok (.iconst 0, 1) := by decide +kernel
theorem dX4_bytesShown_56 : decode cX4_bytesShown 56 = .ok (.istore_n 3, 1) := by decide +kernel
theorem dX4_bytesShown_57 : decode cX4_bytesShown 57 = .ok (.iinc 4 1, 3) := by decide +kernel
theorem dX4_bytesShown_60 : decode cX4_bytesShown 60 = .ok (.goto (-44), 3) := by decide +kernel
theorem dX4_bytesShown_63 : decode cX4_bytesShown 63 = .ok (.iload_n 1, 1) := by decide +kernel
theorem dX4_bytesShown_64 : decode cX4_bytesShown 64 = .ok (.iload_n 3, 1) := by decide +kernel
theorem dX4_bytesShown_65 : decode cX4_bytesShown 65 = .ok (.ifCond .eq 12, 3) := by decide +kernel
theorem dX4_bytesShown_68 : decode cX4_bytesShown 68 = .ok (.aload_n 0, 1) := by decide +kernel
theorem dX4_bytesShown_69 : decode cX4_bytesShown 69 = .ok (.getfield 16, 3) := by decide +kernel
theorem dX4_bytesShown_72 : decode cX4_bytesShown 72 = .ok (.iload_n 2, 1) := by decide +kernel
theorem dX4_bytesShown_73 : decode cX4_bytesShown 73 = .ok (.iaload, 1) := by decide +kernel
theorem dX4_bytesShown_74 : decode cX4_bytesShown 74 = .ok (.goto 4, 3) := by decide +kernel
theorem dX4_bytesShown_77 : decode cX4_bytesShown 77 = .ok (.iconst 0, 1) := by decide +kernel
theorem dX4_bytesShown_78 : decode cX4_bytesShown 78 = .ok (.iadd, 1) := by decide +kernel
theorem dX4_bytesShown_79 : decode cX4_bytesShown 79 = .ok (.istore_n 1, 1) := by decide +kernel
theorem dX4_bytesShown_80 : decode cX4_bytesShown 80 = .ok (.iinc 2 1, 3) := by decide +kernel
theorem dX4_bytesShown_83 : decode cX4_bytesShown 83 = .ok (.goto (-79), 3) := by decide +kernel
theorem dX4_bytesShown_86 : decode cX4_bytesShown 86 = .ok (.iload_n 1, 1) := by decide +kernel
theorem dX4_bytesShown_87 : decode cX4_bytesShown 87 = .ok (.ireturn, 1) := by decide +kernel
theorem dX4_hidden_0 : decode cX4_hidden 0 = .ok (.aload_n 0, 1) := by decide +kernel
theorem dX4_hidden_1 : decode cX4_hidden 1 = .ok (.iconst 0, 1) := by decide +kernel
theorem dX4_hidden_2 : decode cX4_hidden 2 = .ok (.putfield 44, 3) := by decide +kernel
theorem dX4_hidden_5 : decode cX4_hidden 5 = .ok (.aload_n 0, 1) := by decide +kernel
theorem dX4_hidden_6 : decode cX4_hidden 6 = .ok (.invokevirtual 141, 3) := by decide +kernel
theorem dX4_hidden_9 : decode cX4_hidden 9 = .ok (.aload_n 0, 1) := by decide +kernel
theorem dX4_hidden_10 : decode cX4_hidden 10 = .ok (.invokevirtual 145, 3) := by decide +kernel
theorem dX4_hidden_13 : decode cX4_hidden 13 = .ok (.isub, 1) := by decide +kernel
theorem dX4_hidden_14 : decode cX4_hidden 14 = .ok (.ireturn, 1) := by decide +kernel
theorem dX4_copies_0 : decode cX4_copies 0 = .ok (.aload_n 0, 1) := by decide +kernel
theorem dX4_copies_1 : decode cX4_copies 1 = .ok (.iconst 0, 1) := by decide +kernel
theorem dX4_copies_2 : decode cX4_copies 2 = .ok (.putfield 44, 3) := by decide +kernel
theorem dX4_copies_5 : decode cX4_copies 5 = .ok (.aload_n 0, 1) := by decide +kernel
theorem dX4_copies_6 : decode cX4_copies 6 = .ok (.getfield 110, 3) := by decide +kernel
theorem dX4_copies_9 : decode cX4_copies 9 = .ok (.ireturn, 1) := by decide +kernel
theorem dX4_count_0 : decode cX4_count 0 = .ok (.iconst 0, 1) := by decide +kernel
theorem dX4_count_1 : decode cX4_count 1 = .ok (.istore_n 3, 1) := by decide +kernel
theorem dX4_count_2 : decode cX4_count 2 = .ok (.sipush 341, 3) := by decide +kernel
theorem dX4_count_5 : decode cX4_count 5 = .ok (.iload_n 1, 1) := by decide +kernel
theorem dX4_count_6 : decode cX4_count 6 = .ok (.imul, 1) := by decide +kernel
theorem dX4_count_7 : decode cX4_count 7 = .ok (.istore 4, 2) := by decide +kernel
theorem dX4_count_9 : decode cX4_count 9 = .ok (.iload 4, 2) := by decide +kernel
theorem dX4_count_11 : decode cX4_count 11 = .ok (.sipush 341, 3) := by decide +kernel
theorem dX4_count_14 : decode cX4_count 14 = .ok (.iload_n 1, 1) := by decide +kernel
theorem dX4_count_15 : decode cX4_count 15 = .ok (.imul, 1) := by decide +kernel
theorem dX4_count_16 : decode cX4_count 16 = .ok (.sipush 341, 3) := by decide +kernel
theorem dX4_count_19 : decode cX4_count 19 = .ok (.iadd, 1) := by decide +kernel
theorem dX4_count_20 : decode cX4_count 20 = .ok (.if_icmp .ge 28, 3) := by decide +kernel
theorem dX4_count_23 : decode cX4_count 23 = .ok (.iload_n 3, 1) := by decide +kernel
theorem dX4_count_24 : decode cX4_count 24 = .ok (.aload_n 0, 1) := by decide +kernel
theorem dX4_count_25 : decode cX4_count 25 = .ok (.getfield 7, 3) := by decide +kernel
theorem dX4_count_28 : decode cX4_count 28 = .ok (.iload 4, 2) := by decide +kernel
theorem dX4_count_30 : decode cX4_count 30 = .ok (.iaload, 1) := by decide +kernel
theorem dX4_count_31 : decode cX4_count 31 = .ok (.iload_n 2, 1) := by decide +kernel
theorem dX4_count_32 : decode cX4_count 32 = .ok (.if_icmp .ne 7, 3) := by decide +kernel
theorem dX4_count_35 : decode cX4_count 35 = .ok (.iconst 1, 1) := by decide +kernel
theorem dX4_count_36 : decode cX4_count 36 = .ok (.goto 4, 3) := by decide +kernel
theorem dX4_count_39 : decode cX4_count 39 = .ok (.iconst 0, 1) := by decide +kernel
theorem dX4_count_40 : decode cX4_count 40 = .ok (.iadd, 1) := by decide +kernel
theorem dX4_count_41 : decode cX4_count 41 = .ok (.istore_n 3, 1) := by decide +kernel
theorem dX4_count_42 : decode cX4_count 42 = .ok (.iinc 4 1, 3) := by decide +kernel
theorem dX4_count_45 : decode cX4_count 45 = .ok (.goto (-36), 3) := by decide +kernel
theorem dX4_count_48 : decode cX4_count 48 = .ok (.iload_n 3, 1) := by decide +kernel
theorem dX4_count_49 : decode cX4_count 49 = .ok (.ireturn, 1) := by decide +kernel
theorem dX4_whiteouts_0 : decode cX4_whiteouts 0 = .ok (.aload_n 0, 1) := by decide +kernel
theorem dX4_whiteouts_1 : decode cX4_whiteouts 1 = .ok (.aload_n 0, 1) := by decide +kernel
theorem dX4_whiteouts_2 : decode cX4_whiteouts 2 = .ok (.iload_n 1, 1) := by decide +kernel
theorem dX4_whiteouts_3 : decode cX4_whiteouts 3 = .ok (.invokevirtual 74, 3) := by decide +kernel
theorem dX4_whiteouts_6 : decode cX4_whiteouts 6 = .ok (.ifCond .eq 7, 3) := by decide +kernel
theorem dX4_whiteouts_9 : decode cX4_whiteouts 9 = .ok (.iconst 0, 1) := by decide +kernel
theorem dX4_whiteouts_10 : decode cX4_whiteouts 10 = .ok (.goto 4, 3) := by decide +kernel
theorem dX4_whiteouts_13 : decode cX4_whiteouts 13 = .ok (.iconst 1, 1) := by decide +kernel
theorem dX4_whiteouts_14 : decode cX4_whiteouts 14 = .ok (.putfield 44, 3) := by decide +kernel
theorem dX4_whiteouts_17 : decode cX4_whiteouts 17 = .ok (.aload_n 0, 1) := by decide +kernel
theorem dX4_whiteouts_18 : decode cX4_whiteouts 18 = .ok (.getfield 44, 3) := by decide +kernel
theorem dX4_whiteouts_21 : decode cX4_whiteouts 21 = .ok (.ifCond .ne 12, 3) := by decide +kernel
theorem dX4_whiteouts_24 : decode cX4_whiteouts 24 = .ok (.aload_n 0, 1) := by decide +kernel
theorem dX4_whiteouts_25 : decode cX4_whiteouts 25 = .ok (.iload_n 1, 1) := by decide +kernel
theorem dX4_whiteouts_26 : decode cX4_whiteouts 26 = .ok (.iconst 3, 1) := by decide +kernel
theorem dX4_whiteouts_27 : decode cX4_whiteouts 27 = .ok (.invokevirtual 148, 3) := by decide +kernel
theorem dX4_whiteouts_30 : decode cX4_whiteouts 30 = .ok (.goto 4, 3) := by decide +kernel
theorem dX4_whiteouts_33 : decode cX4_whiteouts 33 = .ok (.iconst (-1), 1) := by decide +kernel
theorem dX4_whiteouts_34 : decode cX4_whiteouts 34 = .ok (.ireturn, 1) := by decide +kernel
theorem dX4_nowAt_0 : decode cX4_nowAt 0 = .ok (.iload_n 1, 1) := by decide +kernel
theorem dX4_nowAt_1 : decode cX4_nowAt 1 = .ok (.ifCond .ne 26, 3) := by decide +kernel
theorem dX4_nowAt_4 : decode cX4_nowAt 4 = .ok (.aload_n 0, 1) := by decide +kernel
theorem dX4_nowAt_5 : decode cX4_nowAt 5 = .ok (.getfield 7, 3) := by decide +kernel
theorem dX4_nowAt_8 : decode cX4_nowAt 8 = .ok (.iload_n 2, 1) := by decide +kernel
theorem dX4_nowAt_9 : decode cX4_nowAt 9 = .ok (.iaload, 1) := by decide +kernel
theorem dX4_nowAt_10 : decode cX4_nowAt 10 = .ok (.iconst 1, 1) := by decide +kernel
theorem dX4_nowAt_11 : decode cX4_nowAt 11 = .ok (.if_icmp .ne 14, 3) := by decide +kernel
theorem dX4_nowAt_14 : decode cX4_nowAt 14 = .ok (.aload_n 0, 1) := by decide +kernel
theorem dX4_nowAt_15 : decode cX4_nowAt 15 = .ok (.getfield 16, 3) := by decide +kernel
theorem dX4_nowAt_18 : decode cX4_nowAt 18 = .ok (.iload_n 2, 1) := by decide +kernel
theorem dX4_nowAt_19 : decode cX4_nowAt 19 = .ok (.iaload, 1) := by decide +kernel
theorem dX4_nowAt_20 : decode cX4_nowAt 20 = .ok (.iconst 1, 1) := by decide +kernel
theorem dX4_nowAt_21 : decode cX4_nowAt 21 = .ok (.iadd, 1) := by decide +kernel
theorem dX4_nowAt_22 : decode cX4_nowAt 22 = .ok (.goto 4, 3) := by decide +kernel
theorem dX4_nowAt_25 : decode cX4_nowAt 25 = .ok (.iconst 0, 1) := by decide +kernel
theorem dX4_nowAt_26 : decode cX4_nowAt 26 = .ok (.ireturn, 1) := by decide +kernel
theorem dX4_nowAt_27 : decode cX4_nowAt 27 = .ok (.iload_n 2, 1) := by decide +kernel
theorem dX4_nowAt_28 : decode cX4_nowAt 28 = .ok (.iconst 1, 1) := by decide +kernel
theorem dX4_nowAt_29 : decode cX4_nowAt 29 = .ok (.if_icmp .lt 21, 3) := by decide +kernel
theorem dX4_nowAt_32 : decode cX4_nowAt 32 = .ok (.iload_n 2, 1) := by decide +kernel
theorem dX4_nowAt_33 : decode cX4_nowAt 33 = .ok (.sipush 341, 3) := by decide +kernel
theorem dX4_nowAt_36 : decode cX4_nowAt 36 = .ok (.if_icmp .ge 14, 3) := by decide +kernel
theorem dX4_nowAt_39 : decode cX4_nowAt 39 = .ok (.aload_n 0, 1) := by decide +kernel
theorem dX4_nowAt_40 : decode cX4_nowAt 40 = .ok (.iload_n 2, 1) := by decide +kernel
theorem dX4_nowAt_41 : decode cX4_nowAt 41 = .ok (.invokestatic 93, 3) := by decide +kernel
theorem dX4_nowAt_44 : decode cX4_nowAt 44 = .ok (.invokevirtual 107, 3) := by decide +kernel
theorem dX4_nowAt_47 : decode cX4_nowAt 47 = .ok (.goto 4, 3) := by decide +kernel
theorem dX4_nowAt_50 : decode cX4_nowAt 50 = .ok (.iconst (-1), 1) := by decide +kernel
theorem dX4_nowAt_51 : decode cX4_nowAt 51 = .ok (.istore_n 3, 1) := by decide +kernel
theorem dX4_nowAt_52 : decode cX4_nowAt 52 = .ok (.iload_n 3, 1) := by decide +kernel
theorem dX4_nowAt_53 : decode cX4_nowAt 53 = .ok (.iconst (-1), 1) := by decide +kernel
theorem dX4_nowAt_54 : decode cX4_nowAt 54 = .ok (.if_icmp .eq 24, 3) := by decide +kernel
theorem dX4_nowAt_57 : decode cX4_nowAt 57 = .ok (.aload_n 0, 1) := by decide +kernel
theorem dX4_nowAt_58 : decode cX4_nowAt 58 = .ok (.getfield 7, 3) := by decide +kernel
theorem dX4_nowAt_61 : decode cX4_nowAt 61 = .ok (.iload_n 3, 1) := by decide +kernel
theorem dX4_nowAt_62 : decode cX4_nowAt 62 = .ok (.iaload, 1) := by decide +kernel
theorem dX4_nowAt_63 : decode cX4_nowAt 63 = .ok (.iconst 1, 1) := by decide +kernel
theorem dX4_nowAt_64 : decode cX4_nowAt 64 = .ok (.if_icmp .ne 14, 3) := by decide +kernel
theorem dX4_nowAt_67 : decode cX4_nowAt 67 = .ok (.aload_n 0, 1) := by decide +kernel
theorem dX4_nowAt_68 : decode cX4_nowAt 68 = .ok (.getfield 16, 3) := by decide +kernel
theorem dX4_nowAt_71 : decode cX4_nowAt 71 = .ok (.iload_n 3, 1) := by decide +kernel
theorem dX4_nowAt_72 : decode cX4_nowAt 72 = .ok (.iaload, 1) := by decide +kernel
theorem dX4_nowAt_73 : decode cX4_nowAt 73 = .ok (.iconst 1, 1) := by decide +kernel
theorem dX4_nowAt_74 : decode cX4_nowAt 74 = .ok (.iadd, 1) := by decide +kernel
theorem dX4_nowAt_75 : decode cX4_nowAt 75 = .ok (.goto 4, 3) := by decide +kernel
theorem dX4_nowAt_78 : decode cX4_nowAt 78 = .ok (.iconst 0, 1) := by decide +kernel
theorem dX4_nowAt_79 : decode cX4_nowAt 79 = .ok (.ireturn, 1) := by decide +kernel
theorem dX4_backUp_0 : decode cX4_backUp 0 = .ok (.aload_n 0, 1) := by decide +kernel
theorem dX4_backUp_1 : decode cX4_backUp 1 = .ok (.aload_n 0, 1) := by decide +kernel
theorem dX4_backUp_2 : decode cX4_backUp 2 = .ok (.getfield 151, 3) := by decide +kernel
theorem dX4_backUp_5 : decode cX4_backUp 5 = .ok (.bipush 6, 2) := by decide +kernel
theorem dX4_backUp_7 : decode cX4_backUp 7 = .ok (.if_icmp .ne 7, 3) := by decide +kernel
theorem dX4_backUp_10 : decode cX4_backUp 10 = .ok (.iconst 1, 1) := by decide +kernel
theorem dX4_backUp_11 : decode cX4_backUp 11 = .ok (.goto 4, 3) := by decide +kernel
theorem dX4_backUp_14 : decode cX4_backUp 14 = .ok (.iconst 0, 1) := by decide +kernel
theorem dX4_backUp_15 : decode cX4_backUp 15 = .ok (.putfield 44, 3) := by decide +kernel
theorem dX4_backUp_18 : decode cX4_backUp 18 = .ok (.aload_n 0, 1) := by decide +kernel
theorem dX4_backUp_19 : decode cX4_backUp 19 = .ok (.getfield 44, 3) := by decide +kernel
theorem dX4_backUp_22 : decode cX4_backUp 22 = .ok (.ifCond .le 5, 3) := by decide +kernel
theorem dX4_backUp_25 : decode cX4_backUp 25 = .ok (.iconst (-1), 1) := by decide +kernel
theorem dX4_backUp_26 : decode cX4_backUp 26 = .ok (.ireturn, 1) := by decide +kernel
theorem dX4_backUp_27 : decode cX4_backUp 27 = .ok (.iconst 0, 1) := by decide +kernel
theorem dX4_backUp_28 : decode cX4_backUp 28 = .ok (.istore_n 2, 1) := by decide +kernel
theorem dX4_backUp_29 : decode cX4_backUp 29 = .ok (.iload_n 2, 1) := by decide +kernel
theorem dX4_backUp_30 : decode cX4_backUp 30 = .ok (.sipush 2046, 3) := by decide +kernel
theorem dX4_backUp_33 : decode cX4_backUp 33 = .ok (.if_icmp .ge 30, 3) := by decide +kernel
theorem dX4_backUp_36 : decode cX4_backUp 36 = .ok (.aload_n 0, 1) := by decide +kernel
theorem dX4_backUp_37 : decode cX4_backUp 37 = .ok (.getfield 38, 3) := by decide +kernel
theorem dX4_backUp_40 : decode cX4_backUp 40 = .ok (.sipush 2046, 3) := by decide +kernel
theorem dX4_backUp_43 : decode cX4_backUp 43 = .ok (.aload_n 0, 1) := by decide +kernel
theorem dX4_backUp_44 : decode cX4_backUp 44 = .ok (.getfield 151, 3) := by decide +kernel
theorem dX4_backUp_47 : decode cX4_backUp 47 = .ok (.imul, 1) := by decide +kernel
theorem dX4_backUp_48 : decode cX4_backUp 48 = .ok (.iload_n 2, 1) := by decide +kernel
theorem dX4_backUp_49 : decode cX4_backUp 49 = .ok (.iadd, 1) := by decide +kernel
theorem dX4_backUp_50 : decode cX4_backUp 50 = .ok (.aload_n 0, 1) := by decide +kernel
theorem dX4_backUp_51 : decode cX4_backUp 51 = .ok (.iload_n 1, 1) := by decide +kernel
theorem dX4_backUp_52 : decode cX4_backUp 52 = .ok (.iload_n 2, 1) := by decide +kernel
theorem dX4_backUp_53 : decode cX4_backUp 53 = .ok (.invokevirtual 154, 3) := by decide +kernel
theorem dX4_backUp_56 : decode cX4_backUp 56 = .ok (.iastore, 1) := by decide +kernel
theorem dX4_backUp_57 : decode cX4_backUp 57 = .ok (.iinc 2 1, 3) := by decide +kernel
theorem dX4_backUp_60 : decode cX4_backUp 60 = .ok (.goto (-31), 3) := by decide +kernel
theorem dX4_backUp_63 : decode cX4_backUp 63 = .ok (.aload_n 0, 1) := by decide +kernel
theorem dX4_backUp_64 : decode cX4_backUp 64 = .ok (.getfield 41, 3) := by decide +kernel
theorem dX4_backUp_67 : decode cX4_backUp 67 = .ok (.aload_n 0, 1) := by decide +kernel
theorem dX4_backUp_68 : decode cX4_backUp 68 = .ok (.getfield 151, 3) := by decide +kernel
theorem dX4_backUp_71 : decode cX4_backUp 71 = .ok (.iload_n 1, 1) := by decide +kernel
theorem dX4_backUp_72 : decode cX4_backUp 72 = .ok (.bastore, 1) := by decide +kernel
theorem dX4_backUp_73 : decode cX4_backUp 73 = .ok (.aload_n 0, 1) := by decide +kernel
theorem dX4_backUp_74 : decode cX4_backUp 74 = .ok (.dup, 1) := by decide +kernel
theorem dX4_backUp_75 : decode cX4_backUp 75 = .ok (.getfield 151, 3) := by decide +kernel
theorem dX4_backUp_78 : decode cX4_backUp 78 = .ok (.iconst 1, 1) := by decide +kernel
theorem dX4_backUp_79 : decode cX4_backUp 79 = .ok (.iadd, 1) := by decide +kernel
theorem dX4_backUp_80 : decode cX4_backUp 80 = .ok (.putfield 151, 3) := by decide +kernel
theorem dX4_backUp_83 : decode cX4_backUp 83 = .ok (.aload_n 0, 1) := by decide +kernel
theorem dX4_backUp_84 : decode cX4_backUp 84 = .ok (.getfield 151, 3) := by decide +kernel
theorem dX4_backUp_87 : decode cX4_backUp 87 = .ok (.iconst 1, 1) := by decide +kernel
theorem dX4_backUp_88 : decode cX4_backUp 88 = .ok (.isub, 1) := by decide +kernel
theorem dX4_backUp_89 : decode cX4_backUp 89 = .ok (.ireturn, 1) := by decide +kernel
theorem dX4_isBackup_0 : decode cX4_isBackup 0 = .ok (.aload_n 0, 1) := by decide +kernel
theorem dX4_isBackup_1 : decode cX4_isBackup 1 = .ok (.iload_n 1, 1) := by decide +kernel
theorem dX4_isBackup_2 : decode cX4_isBackup 2 = .ok (.i2l, 1) := by decide +kernel
theorem dX4_isBackup_3 : decode cX4_isBackup 3 = .ok (.lconst 0, 1) := by decide +kernel
theorem dX4_isBackup_4 : decode cX4_isBackup 4 = .ok (.aload_n 0, 1) := by decide +kernel
theorem dX4_isBackup_5 : decode cX4_isBackup 5 = .ok (.getfield 151, 3) := by decide +kernel
theorem dX4_isBackup_8 : decode cX4_isBackup 8 = .ok (.iconst 1, 1) := by decide +kernel
theorem dX4_isBackup_9 : decode cX4_isBackup 9 = .ok (.isub, 1) := by decide +kernel
theorem dX4_isBackup_10 : decode cX4_isBackup 10 = .ok (.i2l, 1) := by decide +kernel
theorem dX4_isBackup_11 : decode cX4_isBackup 11 = .ok (.invokestatic 50, 3) := by decide +kernel
theorem dX4_isBackup_14 : decode cX4_isBackup 14 = .ok (.ifCond .eq 7, 3) := by decide +kernel
theorem dX4_isBackup_17 : decode cX4_isBackup 17 = .ok (.iconst 0, 1) := by decide +kernel
theorem dX4_isBackup_18 : decode cX4_isBackup 18 = .ok (.goto 4, 3) := by decide +kernel
theorem dX4_isBackup_21 : decode cX4_isBackup 21 = .ok (.iconst 1, 1) := by decide +kernel
theorem dX4_isBackup_22 : decode cX4_isBackup 22 = .ok (.putfield 44, 3) := by decide +kernel
theorem dX4_isBackup_25 : decode cX4_isBackup 25 = .ok (.aload_n 0, 1) := by decide +kernel
theorem dX4_isBackup_26 : decode cX4_isBackup 26 = .ok (.getfield 44, 3) := by decide +kernel
theorem dX4_isBackup_29 : decode cX4_isBackup 29 = .ok (.ifCond .ne 7, 3) := by decide +kernel
theorem dX4_isBackup_32 : decode cX4_isBackup 32 = .ok (.iconst 1, 1) := by decide +kernel
theorem dX4_isBackup_33 : decode cX4_isBackup 33 = .ok (.goto 4, 3) := by decide +kernel
theorem dX4_isBackup_36 : decode cX4_isBackup 36 = .ok (.iconst 0, 1) := by decide +kernel
theorem dX4_isBackup_37 : decode cX4_isBackup 37 = .ok (.ireturn, 1) := by decide +kernel
theorem dX4_bytes_0 : decode cX4_bytes 0 = .ok (.aload_n 0, 1) := by decide +kernel
theorem dX4_bytes_1 : decode cX4_bytes 1 = .ok (.iload_n 1, 1) := by decide +kernel
theorem dX4_bytes_2 : decode cX4_bytes 2 = .ok (.invokevirtual 158, 3) := by decide +kernel
theorem dX4_bytes_5 : decode cX4_bytes 5 = .ok (.ifCond .eq 7, 3) := by decide +kernel
theorem dX4_bytes_8 : decode cX4_bytes 8 = .ok (.iconst 0, 1) := by decide +kernel
theorem dX4_bytes_9 : decode cX4_bytes 9 = .ok (.goto 4, 3) := by decide +kernel
theorem dX4_bytes_12 : decode cX4_bytes 12 = .ok (.iconst (-1), 1) := by decide +kernel
theorem dX4_bytes_13 : decode cX4_bytes 13 = .ok (.istore_n 2, 1) := by decide +kernel
theorem dX4_bytes_14 : decode cX4_bytes 14 = .ok (.iconst 0, 1) := by decide +kernel
theorem dX4_bytes_15 : decode cX4_bytes 15 = .ok (.istore_n 3, 1) := by decide +kernel
theorem dX4_bytes_16 : decode cX4_bytes 16 = .ok (.iload_n 3, 1) := by decide +kernel
theorem dX4_bytes_17 : decode cX4_bytes 17 = .ok (.sipush 2046, 3) := by decide +kernel
theorem dX4_bytes_20 : decode cX4_bytes 20 = .ok (.if_icmp .ge 46, 3) := by decide +kernel
theorem dX4_bytes_23 : decode cX4_bytes 23 = .ok (.aload_n 0, 1) := by decide +kernel
theorem dX4_bytes_24 : decode cX4_bytes 24 = .ok (.getfield 44, 3) := by decide +kernel
theorem dX4_bytes_27 : decode cX4_bytes 27 = .ok (.ifCond .ne 39, 3) := by decide +kernel
theorem dX4_bytes_30 : decode cX4_bytes 30 = .ok (.aload_n 0, 1) := by decide +kernel
theorem dX4_bytes_31 : decode cX4_bytes 31 = .ok (.getfield 38, 3) := by decide +kernel
theorem dX4_bytes_34 : decode cX4_bytes 34 = .ok (.sipush 2046, 3) := by decide +kernel
theorem dX4_bytes_37 : decode cX4_bytes 37 = .ok (.iload_n 1, 1) := by decide +kernel
theorem dX4_bytes_38 : decode cX4_bytes 38 = .ok (.imul, 1) := by decide +kernel
theorem dX4_bytes_39 : decode cX4_bytes 39 = .ok (.iload_n 3, 1) := by decide +kernel
theorem dX4_bytes_40 : decode cX4_bytes 40 = .ok (.iadd, 1) := by decide +kernel
theorem dX4_bytes_41 : decode cX4_bytes 41 = .ok (.iaload, 1) := by decide +kernel
theorem dX4_bytes_42 : decode cX4_bytes 42 = .ok (.istore 4, 2) := by decide +kernel
theorem dX4_bytes_44 : decode cX4_bytes 44 = .ok (.iload_n 2, 1) := by decide +kernel
theorem dX4_bytes_45 : decode cX4_bytes 45 = .ok (.iload 4, 2) := by decide +kernel
theorem dX4_bytes_47 : decode cX4_bytes 47 = .ok (.ifCond .le 10, 3) := by decide +kernel
theorem dX4_bytes_50 : decode cX4_bytes 50 = .ok (.iload 4, 2) := by decide +kernel
theorem dX4_bytes_52 : decode cX4_bytes 52 = .ok (.iconst 1, 1) := by decide +kernel
theorem dX4_bytes_53 : decode cX4_bytes 53 = .ok (.isub, 1) := by decide +kernel
theorem dX4_bytes_54 : decode cX4_bytes 54 = .ok (.goto 4, 3) := by decide +kernel
theorem dX4_bytes_57 : decode cX4_bytes 57 = .ok (.iconst 0, 1) := by decide +kernel
theorem dX4_bytes_58 : decode cX4_bytes 58 = .ok (.iadd, 1) := by decide +kernel
theorem dX4_bytes_59 : decode cX4_bytes 59 = .ok (.istore_n 2, 1) := by decide +kernel
theorem dX4_bytes_60 : decode cX4_bytes 60 = .ok (.iinc 3 1, 3) := by decide +kernel
theorem dX4_bytes_63 : decode cX4_bytes 63 = .ok (.goto (-47), 3) := by decide +kernel
theorem dX4_bytes_66 : decode cX4_bytes 66 = .ok (.iload_n 2, 1) := by decide +kernel
theorem dX4_bytes_67 : decode cX4_bytes 67 = .ok (.ireturn, 1) := by decide +kernel
theorem dX4_differences_0 : decode cX4_differences 0 = .ok (.aload_n 0, 1) := by decide +kernel
theorem dX4_differences_1 : decode cX4_differences 1 = .ok (.iload_n 1, 1) := by decide +kernel
theorem dX4_differences_2 : decode cX4_differences 2 = .ok (.invokevirtual 158, 3) := by decide +kernel
theorem dX4_differences_5 : decode cX4_differences 5 = .ok (.ifCond .eq 7, 3) := by decide +kernel
theorem dX4_differences_8 : decode cX4_differences 8 = .ok (.iconst 0, 1) := by decide +kernel
theorem dX4_differences_9 : decode cX4_differences 9 = .ok (.goto 4, 3) := by decide +kernel
theorem dX4_differences_12 : decode cX4_differences 12 = .ok (.iconst (-1), 1) := by decide +kernel
theorem dX4_differences_13 : decode cX4_differences 13 = .ok (.istore_n 2, 1) := by decide +kernel
theorem dX4_differences_14 : decode cX4_differences 14 = .ok (.iconst 0, 1) := by decide +kernel
theorem dX4_differences_15 : decode cX4_differences 15 = .ok (.istore_n 3, 1) := by decide +kernel
theorem dX4_differences_16 : decode cX4_differences 16 = .ok (.iload_n 3, 1) := by decide +kernel
theorem dX4_differences_17 : decode cX4_differences 17 = .ok (.sipush 2046, 3) := by decide +kernel
theorem dX4_differences_20 : decode cX4_differences 20 = .ok (.if_icmp .ge 50, 3) := by decide +kernel
theorem dX4_differences_23 : decode cX4_differences 23 = .ok (.aload_n 0, 1) := by decide +kernel
theorem dX4_differences_24 : decode cX4_differences 24 = .ok (.getfield 44, 3) := by decide +kernel
theorem dX4_differences_27 : decode cX4_differences 27 = .ok (.ifCond .ne 43, 3) := by decide +kernel
theorem dX4_differences_30 : decode cX4_differences 30 = .ok (.iload_n 2, 1) := by decide +kernel
theorem dX4_differences_31 : decode cX4_differences 31 = .ok (.aload_n 0, 1) := by decide +kernel
theorem dX4_differences_32 : decode cX4_differences 32 = .ok (.getfield 38, 3) := by decide +kernel
theorem dX4_differences_35 : decode cX4_differences 35 = .ok (.sipush 2046, 3) := by decide +kernel
theorem dX4_differences_38 : decode cX4_differences 38 = .ok (.iload_n 1, 1) := by decide +kernel
theorem dX4_differences_39 : decode cX4_differences 39 = .ok (.imul, 1) := by decide +kernel
theorem dX4_differences_40 : decode cX4_differences 40 = .ok (.iload_n 3, 1) := by decide +kernel
theorem dX4_differences_41 : decode cX4_differences 41 = .ok (.iadd, 1) := by decide +kernel
theorem dX4_differences_42 : decode cX4_differences 42 = .ok (.iaload, 1) := by decide +kernel
theorem dX4_differences_43 : decode cX4_differences 43 = .ok (.aload_n 0, 1) := by decide +kernel
theorem dX4_differences_44 : decode cX4_differences 44 = .ok (.aload_n 0, 1) := by decide +kernel
theorem dX4_differences_45 : decode cX4_differences 45 = .ok (.getfield 41, 3) := by decide +kernel
theorem dX4_differences_48 : decode cX4_differences 48 = .ok (.iload_n 1, 1) := by decide +kernel
theorem dX4_differences_49 : decode cX4_differences 49 = .ok (.baload, 1) := by decide +kernel
theorem dX4_differences_50 : decode cX4_differences 50 = .ok (.iload_n 3, 1) := by decide +kernel
theorem dX4_differences_51 : decode cX4_differences 51 = .ok (.invokevirtual 154, 3) := by decide +kernel
theorem dX4_differences_54 : decode cX4_differences 54 = .ok (.if_icmp .ne 7, 3) := by decide +kernel
theorem dX4_differences_57 : decode cX4_differences 57 = .ok (.iconst 0, 1) := by decide +kernel
theorem dX4_differences_58 : decode cX4_differences 58 = .ok (.goto 4, 3) := by decide +kernel
theorem dX4_differences_61 : decode cX4_differences 61 = .ok (.iconst 1, 1) := by decide +kernel
theorem dX4_differences_62 : decode cX4_differences 62 = .ok (.iadd, 1) := by decide +kernel
theorem dX4_differences_63 : decode cX4_differences 63 = .ok (.istore_n 2, 1) := by decide +kernel
theorem dX4_differences_64 : decode cX4_differences 64 = .ok (.iinc 3 1, 3) := by decide +kernel
theorem dX4_differences_67 : decode cX4_differences 67 = .ok (.goto (-51), 3) := by decide +kernel
theorem dX4_differences_70 : decode cX4_differences 70 = .ok (.iload_n 2, 1) := by decide +kernel
theorem dX4_differences_71 : decode cX4_differences 71 = .ok (.ireturn, 1) := by decide +kernel
theorem dX4_shownShare_0 : decode cX4_shownShare 0 = .ok (.aload_n 0, 1) := by decide +kernel
theorem dX4_shownShare_1 : decode cX4_shownShare 1 = .ok (.invokevirtual 141, 3) := by decide +kernel
theorem dX4_shownShare_4 : decode cX4_shownShare 4 = .ok (.istore_n 1, 1) := by decide +kernel
theorem dX4_shownShare_5 : decode cX4_shownShare 5 = .ok (.aload_n 0, 1) := by decide +kernel
theorem dX4_shownShare_6 : decode cX4_shownShare 6 = .ok (.iload_n 1, 1) := by decide +kernel
theorem dX4_shownShare_7 : decode cX4_shownShare 7 = .ok (.ifCond .ne 7, 3) := by decide +kernel
theorem dX4_shownShare_10 : decode cX4_shownShare 10 = .ok (.iconst 1, 1) := by decide +kernel
theorem dX4_shownShare_11 : decode cX4_shownShare 11 = .ok (.goto 4, 3) := by decide +kernel
theorem dX4_shownShare_14 : decode cX4_shownShare 14 = .ok (.iconst 0, 1) := by decide +kernel
theorem dX4_shownShare_15 : decode cX4_shownShare 15 = .ok (.putfield 44, 3) := by decide +kernel
theorem dX4_shownShare_18 : decode cX4_shownShare 18 = .ok (.aload_n 0, 1) := by decide +kernel
theorem dX4_shownShare_19 : decode cX4_shownShare 19 = .ok (.getfield 44, 3) := by decide +kernel
theorem dX4_shownShare_22 : decode cX4_shownShare 22 = .ok (.ifCond .ne 14, 3) := by decide +kernel
theorem dX4_shownShare_25 : decode cX4_shownShare 25 = .ok (.aload_n 0, 1) := by decide +kernel
theorem dX4_shownShare_26 : decode cX4_shownShare 26 = .ok (.invokevirtual 145, 3) := by decide +kernel
theorem dX4_shownShare_29 : decode cX4_shownShare 29 = .ok (.i2f, 1) := by decide +kernel
theorem dX4_shownShare_30 : decode cX4_shownShare 30 = .ok (.iload_n 1, 1) := by decide +kernel
theorem dX4_shownShare_31 : decode cX4_shownShare 31 = .ok (.i2f, 1) := by decide +kernel
theorem dX4_shownShare_32 : decode cX4_shownShare 32 = .ok (.fdiv, 1) := by decide +kernel
theorem dX4_shownShare_33 : decode cX4_shownShare 33 = .ok (.goto 4, 3) := by decide +kernel
theorem dX4_shownShare_36 : decode cX4_shownShare 36 = .ok (.fconst 0, 1) := by decide +kernel
theorem dX4_shownShare_37 : decode cX4_shownShare 37 = .ok (.freturn, 1) := by decide +kernel
theorem dX4_meanSize_0 : decode cX4_meanSize 0 = .ok (.aload_n 0, 1) := by decide +kernel
theorem dX4_meanSize_1 : decode cX4_meanSize 1 = .ok (.aload_n 0, 1) := by decide +kernel
theorem dX4_meanSize_2 : decode cX4_meanSize 2 = .ok (.iload_n 1, 1) := by decide +kernel
theorem dX4_meanSize_3 : decode cX4_meanSize 3 = .ok (.invokevirtual 74, 3) := by decide +kernel
theorem dX4_meanSize_6 : decode cX4_meanSize 6 = .ok (.ifCond .eq 7, 3) := by decide +kernel
theorem dX4_meanSize_9 : decode cX4_meanSize 9 = .ok (.iconst 0, 1) := by decide +kernel
theorem dX4_meanSize_10 : decode cX4_meanSize 10 = .ok (.goto 4, 3) := by decide +kernel
theorem dX4_meanSize_13 : decode cX4_meanSize 13 = .ok (.iconst 1, 1) := by decide +kernel
theorem dX4_meanSize_14 : decode cX4_meanSize 14 = .ok (.putfield 44, 3) := by decide +kernel
theorem dX4_meanSize_17 : decode cX4_meanSize 17 = .ok (.aload_n 0, 1) := by decide +kernel
theorem dX4_meanSize_18 : decode cX4_meanSize 18 = .ok (.getfield 44, 3) := by decide +kernel
theorem dX4_meanSize_21 : decode cX4_meanSize 21 = .ok (.ifCond .le 5, 3) := by decide +kernel
theorem dX4_meanSize_24 : decode cX4_meanSize 24 = .ok (.dconst 0, 1) := by decide +kernel
theorem dX4_meanSize_25 : decode cX4_meanSize 25 = .ok (.dreturn, 1) := by decide +kernel
theorem dX4_meanSize_26 : decode cX4_meanSize 26 = .ok (.iconst 0, 1) := by decide +kernel
theorem dX4_meanSize_27 : decode cX4_meanSize 27 = .ok (.istore_n 2, 1) := by decide +kernel
theorem dX4_meanSize_28 : decode cX4_meanSize 28 = .ok (.sipush 341, 3) := by decide +kernel
theorem dX4_meanSize_31 : decode cX4_meanSize 31 = .ok (.iload_n 1, 1) := by decide +kernel
theorem dX4_meanSize_32 : decode cX4_meanSize 32 = .ok (.imul, 1) := by decide +kernel
theorem dX4_meanSize_33 : decode cX4_meanSize 33 = .ok (.istore_n 3, 1) := by decide +kernel
theorem dX4_meanSize_34 : decode cX4_meanSize 34 = .ok (.iload_n 3, 1) := by decide +kernel
theorem dX4_meanSize_35 : decode cX4_meanSize 35 = .ok (.sipush 341, 3) := by decide +kernel
theorem dX4_meanSize_38 : decode cX4_meanSize 38 = .ok (.iload_n 1, 1) := by decide +kernel
theorem dX4_meanSize_39 : decode cX4_meanSize 39 = .ok (.imul, 1) := by decide +kernel
theorem dX4_meanSize_40 : decode cX4_meanSize 40 = .ok (.sipush 341, 3) := by decide +kernel
theorem dX4_meanSize_43 : decode cX4_meanSize 43 = .ok (.iadd, 1) := by decide +kernel
theorem dX4_meanSize_44 : decode cX4_meanSize 44 = .ok (.if_icmp .ge 32, 3) := by decide +kernel
theorem dX4_meanSize_47 : decode cX4_meanSize 47 = .ok (.iload_n 2, 1) := by decide +kernel
theorem dX4_meanSize_48 : decode cX4_meanSize 48 = .ok (.aload_n 0, 1) := by decide +kernel
theorem dX4_meanSize_49 : decode cX4_meanSize 49 = .ok (.getfield 7, 3) := by decide +kernel
theorem dX4_meanSize_52 : decode cX4_meanSize 52 = .ok (.iload_n 3, 1) := by decide +kernel
theorem dX4_meanSize_53 : decode cX4_meanSize 53 = .ok (.iaload, 1) := by decide +kernel
theorem dX4_meanSize_54 : decode cX4_meanSize 54 = .ok (.iconst 1, 1) := by decide +kernel
theorem dX4_meanSize_55 : decode cX4_meanSize 55 = .ok (.if_icmp .ne 12, 3) := by decide +kernel
theorem dX4_meanSize_58 : decode cX4_meanSize 58 = .ok (.aload_n 0, 1) := by decide +kernel
theorem dX4_meanSize_59 : decode cX4_meanSize 59 = .ok (.getfield 16, 3) := by decide +kernel
theorem dX4_meanSize_62 : decode cX4_meanSize 62 = .ok (.iload_n 3, 1) := by decide +kernel
theorem dX4_meanSize_63 : decode cX4_meanSize 63 = .ok (.iaload, 1) := by decide +kernel
theorem dX4_meanSize_64 : decode cX4_meanSize 64 = .ok (.goto 4, 3) := by decide +kernel
theorem dX4_meanSize_67 : decode cX4_meanSize 67 = .ok (.iconst 0, 1) := by decide +kernel
theorem dX4_meanSize_68 : decode cX4_meanSize 68 = .ok (.iadd, 1) := by decide +kernel
theorem dX4_meanSize_69 : decode cX4_meanSize 69 = .ok (.istore_n 2, 1) := by decide +kernel
theorem dX4_meanSize_70 : decode cX4_meanSize 70 = .ok (.iinc 3 1, 3) := by decide +kernel
theorem dX4_meanSize_73 : decode cX4_meanSize 73 = .ok (.goto (-39), 3) := by decide +kernel
theorem dX4_meanSize_76 : decode cX4_meanSize 76 = .ok (.aload_n 0, 1) := by decide +kernel
theorem dX4_meanSize_77 : decode cX4_meanSize 77 = .ok (.iload_n 1, 1) := by decide +kernel
theorem dX4_meanSize_78 : decode cX4_meanSize 78 = .ok (.iconst 1, 1) := by decide +kernel
theorem dX4_meanSize_79 : decode cX4_meanSize 79 = .ok (.invokevirtual 148, 3) := by decide +kernel
theorem dX4_meanSize_82 : decode cX4_meanSize 82 = .ok (.istore_n 3, 1) := by decide +kernel
theorem dX4_meanSize_83 : decode cX4_meanSize 83 = .ok (.aload_n 0, 1) := by decide +kernel
theorem dX4_meanSize_84 : decode cX4_meanSize 84 = .ok (.iload_n 3, 1) := by decide +kernel
theorem dX4_meanSize_85 : decode cX4_meanSize 85 = .ok (.ifCond .ne 7, 3) := by decide +kernel
theorem dX4_meanSize_88 : decode cX4_meanSize 88 = .ok (.iconst 2, 1) := by decide +kernel
theorem dX4_meanSize_89 : decode cX4_meanSize 89 = .ok (.goto 4, 3) := by decide +kernel
theorem dX4_meanSize_92 : decode cX4_meanSize 92 = .ok (.iconst 0, 1) := by decide +kernel
theorem dX4_meanSize_93 : decode cX4_meanSize 93 = .ok (.putfield 44, 3) := by decide +kernel
theorem dX4_meanSize_96 : decode cX4_meanSize 96 = .ok (.aload_n 0, 1) := by decide +kernel
theorem dX4_meanSize_97 : decode cX4_meanSize 97 = .ok (.getfield 44, 3) := by decide +kernel
theorem dX4_meanSize_100 : decode cX4_meanSize 100 = .ok (.ifCond .ne 11, 3) := by decide +kernel
theorem dX4_meanSize_103 : decode cX4_meanSize 103 = .ok (.iload_n 2, 1) := by decide +kernel
theorem dX4_meanSize_104 : decode cX4_meanSize 104 = .ok (.i2d, 1) := by decide +kernel
theorem dX4_meanSize_105 : decode cX4_meanSize 105 = .ok (.iload_n 3, 1) := by decide +kernel
theorem dX4_meanSize_106 : decode cX4_meanSize 106 = .ok (.i2d, 1) := by decide +kernel
theorem dX4_meanSize_107 : decode cX4_meanSize 107 = .ok (.ddiv, 1) := by decide +kernel
theorem dX4_meanSize_108 : decode cX4_meanSize 108 = .ok (.goto 4, 3) := by decide +kernel
theorem dX4_meanSize_111 : decode cX4_meanSize 111 = .ok (.dconst 0, 1) := by decide +kernel
theorem dX4_meanSize_112 : decode cX4_meanSize 112 = .ok (.dreturn, 1) := by decide +kernel
theorem dJx00060_init_a7421_0 : decode cJx00060_init_a7421 0 = .ok (.aload_n 0, 1) := by decide +kernel
theorem dJx00060_init_a7421_1 : decode cJx00060_init_a7421 1 = .ok (.aload_n 1, 1) := by decide +kernel
theorem dJx00060_init_a7421_2 : decode cJx00060_init_a7421 2 = .ok (.invokespecial 7, 3) := by decide +kernel
theorem dJx00060_init_a7421_5 : decode cJx00060_init_a7421 5 = .ok (.return_, 1) := by decide +kernel
end
section
theorem dL_addLayer_0 : decode cL_addLayer 0 = .ok (.aload_n 1, 1) := by decide +kernel
theorem dL_addLayer_1 : decode cL_addLayer 1 = .ok (.iconst 0, 1) := by decide +kernel
theorem dL_addLayer_2 : decode cL_addLayer 2 = .ok (.aload_n 0, 1) := by decide +kernel
theorem dL_addLayer_3 : decode cL_addLayer 3 = .ok (.invokevirtual 7, 3) := by decide +kernel
theorem dL_addLayer_6 : decode cL_addLayer 6 = .ok (.i2l, 1) := by decide +kernel
theorem dL_addLayer_7 : decode cL_addLayer 7 = .ok (.lastore, 1) := by decide +kernel
theorem dL_addLayer_8 : decode cL_addLayer 8 = .ok (.goto 6, 3) := by decide +kernel
theorem dL_addLayer_11 : decode cL_addLayer 11 = .ok (.astore_n 2, 1) := by decide +kernel
theorem dL_addLayer_12 : decode cL_addLayer 12 = .ok (.iconst 1, 1) := by decide +kernel
theorem dL_addLayer_13 : decode cL_addLayer 13 = .ok (.ireturn, 1) := by decide +kernel
theorem dL_addLayer_14 : decode cL_addLayer 14 = .ok (.iconst 0, 1) := by decide +kernel
theorem dL_addLayer_15 : decode cL_addLayer 15 = .ok (.ireturn, 1) := by decide +kernel
theorem dL_mount_0 : decode cL_mount 0 = .ok (.aload 4, 2) := by decide +kernel
theorem dL_mount_2 : decode cL_mount 2 = .ok (.iconst 0, 1) := by decide +kernel
theorem dL_mount_3 : decode cL_mount 3 = .ok (.aload_n 0, 1) := by decide +kernel
theorem dL_mount_4 : decode cL_mount 4 = .ok (.iload_n 1, 1) := by decide +kernel
theorem dL_mount_5 : decode cL_mount 5 = .ok (.iload_n 2, 1) := by decide +kernel
theorem dL_mount_6 : decode cL_mount 6 = .ok (.iload_n 3, 1) := by decide +kernel
theorem dL_mount_7 : decode cL_mount 7 = .ok (.invokevirtual 15, 3) := by decide +kernel
theorem dL_mount_10 : decode cL_mount 10 = .ok (.i2l, 1) := by decide +kernel
theorem dL_mount_11 : decode cL_mount 11 = .ok (.lastore, 1) := by decide +kernel
theorem dL_mount_12 : decode cL_mount 12 = .ok (.goto 19, 3) := by decide +kernel
theorem dL_mount_15 : decode cL_mount 15 = .ok (.astore 5, 2) := by decide +kernel
theorem dL_mount_17 : decode cL_mount 17 = .ok (.iconst 1, 1) := by decide +kernel
theorem dL_mount_18 : decode cL_mount 18 = .ok (.ireturn, 1) := by decide +kernel
theorem dL_mount_19 : decode cL_mount 19 = .ok (.astore 5, 2) := by decide +kernel
theorem dL_mount_21 : decode cL_mount 21 = .ok (.iconst 2, 1) := by decide +kernel
theorem dL_mount_22 : decode cL_mount 22 = .ok (.ireturn, 1) := by decide +kernel
theorem dL_mount_23 : decode cL_mount 23 = .ok (.astore 5, 2) := by decide +kernel
theorem dL_mount_25 : decode cL_mount 25 = .ok (.iconst 3, 1) := by decide +kernel
theorem dL_mount_26 : decode cL_mount 26 = .ok (.ireturn, 1) := by decide +kernel
theorem dL_mount_27 : decode cL_mount 27 = .ok (.astore 5, 2) := by decide +kernel
theorem dL_mount_29 : decode cL_mount 29 = .ok (.iconst 4, 1) := by decide +kernel
theorem dL_mount_30 : decode cL_mount 30 = .ok (.ireturn, 1) := by decide +kernel
theorem dL_mount_31 : decode cL_mount 31 = .ok (.iconst 0, 1) := by decide +kernel
theorem dL_mount_32 : decode cL_mount 32 = .ok (.ireturn, 1) := by decide +kernel
theorem dL_unmount_0 : decode cL_unmount 0 = .ok (.aload_n 2, 1) := by decide +kernel
theorem dL_unmount_1 : decode cL_unmount 1 = .ok (.iconst 0, 1) := by decide +kernel
theorem dL_unmount_2 : decode cL_unmount 2 = .ok (.aload_n 0, 1) := by decide +kernel
theorem dL_unmount_3 : decode cL_unmount 3 = .ok (.iload_n 1, 1) := by decide +kernel
theorem dL_unmount_4 : decode cL_unmount 4 = .ok (.invokevirtual 25, 3) := by decide +kernel
theorem dL_unmount_7 : decode cL_unmount 7 = .ok (.i2l, 1) := by decide +kernel
theorem dL_unmount_8 : decode cL_unmount 8 = .ok (.lastore, 1) := by decide +kernel
theorem dL_unmount_9 : decode cL_unmount 9 = .ok (.goto 6, 3) := by decide +kernel
theorem dL_unmount_12 : decode cL_unmount 12 = .ok (.astore_n 3, 1) := by decide +kernel
theorem dL_unmount_13 : decode cL_unmount 13 = .ok (.iconst 1, 1) := by decide +kernel
theorem dL_unmount_14 : decode cL_unmount 14 = .ok (.ireturn, 1) := by decide +kernel
theorem dL_unmount_15 : decode cL_unmount 15 = .ok (.iconst 0, 1) := by decide +kernel
theorem dL_unmount_16 : decode cL_unmount 16 = .ok (.ireturn, 1) := by decide +kernel
theorem dL_move_0 : decode cL_move 0 = .ok (.aload_n 3, 1) := by decide +kernel
theorem dL_move_1 : decode cL_move 1 = .ok (.iconst 0, 1) := by decide +kernel
theorem dL_move_2 : decode cL_move 2 = .ok (.aload_n 0, 1) := by decide +kernel
theorem dL_move_3 : decode cL_move 3 = .ok (.iload_n 1, 1) := by decide +kernel
theorem dL_move_4 : decode cL_move 4 = .ok (.iload_n 2, 1) := by decide +kernel
theorem dL_move_5 : decode cL_move 5 = .ok (.invokevirtual 29, 3) := by decide +kernel
theorem dL_move_8 : decode cL_move 8 = .ok (.i2l, 1) := by decide +kernel
theorem dL_move_9 : decode cL_move 9 = .ok (.lastore, 1) := by decide +kernel
theorem dL_move_10 : decode cL_move 10 = .ok (.goto 11, 3) := by decide +kernel
theorem dL_move_13 : decode cL_move 13 = .ok (.astore 4, 2) := by decide +kernel
theorem dL_move_15 : decode cL_move 15 = .ok (.iconst 1, 1) := by decide +kernel
theorem dL_move_16 : decode cL_move 16 = .ok (.ireturn, 1) := by decide +kernel
theorem dL_move_17 : decode cL_move 17 = .ok (.astore 4, 2) := by decide +kernel
theorem dL_move_19 : decode cL_move 19 = .ok (.iconst 2, 1) := by decide +kernel
theorem dL_move_20 : decode cL_move 20 = .ok (.ireturn, 1) := by decide +kernel
theorem dL_move_21 : decode cL_move 21 = .ok (.iconst 0, 1) := by decide +kernel
theorem dL_move_22 : decode cL_move 22 = .ok (.ireturn, 1) := by decide +kernel
theorem dL_setCrossing_0 : decode cL_setCrossing 0 = .ok (.aload_n 3, 1) := by decide +kernel
theorem dL_setCrossing_1 : decode cL_setCrossing 1 = .ok (.iconst 0, 1) := by decide +kernel
theorem dL_setCrossing_2 : decode cL_setCrossing 2 = .ok (.aload_n 0, 1) := by decide +kernel
theorem dL_setCrossing_3 : decode cL_setCrossing 3 = .ok (.iload_n 1, 1) := by decide +kernel
theorem dL_setCrossing_4 : decode cL_setCrossing 4 = .ok (.iload_n 2, 1) := by decide +kernel
theorem dL_setCrossing_5 : decode cL_setCrossing 5 = .ok (.invokevirtual 33, 3) := by decide +kernel
theorem dL_setCrossing_8 : decode cL_setCrossing 8 = .ok (.ifCond .eq 7, 3) := by decide +kernel
theorem dL_setCrossing_11 : decode cL_setCrossing 11 = .ok (.lconst 1, 1) := by decide +kernel
theorem dL_setCrossing_12 : decode cL_setCrossing 12 = .ok (.goto 4, 3) := by decide +kernel
theorem dL_setCrossing_15 : decode cL_setCrossing 15 = .ok (.lconst 0, 1) := by decide +kernel
theorem dL_setCrossing_16 : decode cL_setCrossing 16 = .ok (.lastore, 1) := by decide +kernel
theorem dL_setCrossing_17 : decode cL_setCrossing 17 = .ok (.goto 7, 3) := by decide +kernel
theorem dL_setCrossing_20 : decode cL_setCrossing 20 = .ok (.astore 4, 2) := by decide +kernel
theorem dL_setCrossing_22 : decode cL_setCrossing 22 = .ok (.iconst 1, 1) := by decide +kernel
theorem dL_setCrossing_23 : decode cL_setCrossing 23 = .ok (.ireturn, 1) := by decide +kernel
theorem dL_setCrossing_24 : decode cL_setCrossing 24 = .ok (.iconst 0, 1) := by decide +kernel
theorem dL_setCrossing_25 : decode cL_setCrossing 25 = .ok (.ireturn, 1) := by decide +kernel
theorem dL_served_0 : decode cL_served 0 = .ok (.aload_n 2, 1) := by decide +kernel
theorem dL_served_1 : decode cL_served 1 = .ok (.iconst 0, 1) := by decide +kernel
theorem dL_served_2 : decode cL_served 2 = .ok (.aload_n 0, 1) := by decide +kernel
theorem dL_served_3 : decode cL_served 3 = .ok (.iload_n 1, 1) := by decide +kernel
theorem dL_served_4 : decode cL_served 4 = .ok (.invokevirtual 37, 3) := by decide +kernel
theorem dL_served_7 : decode cL_served 7 = .ok (.i2l, 1) := by decide +kernel
theorem dL_served_8 : decode cL_served 8 = .ok (.lastore, 1) := by decide +kernel
theorem dL_served_9 : decode cL_served 9 = .ok (.goto 9, 3) := by decide +kernel
theorem dL_served_12 : decode cL_served 12 = .ok (.astore_n 3, 1) := by decide +kernel
theorem dL_served_13 : decode cL_served 13 = .ok (.iconst 1, 1) := by decide +kernel
theorem dL_served_14 : decode cL_served 14 = .ok (.ireturn, 1) := by decide +kernel
theorem dL_served_15 : decode cL_served 15 = .ok (.astore_n 3, 1) := by decide +kernel
theorem dL_served_16 : decode cL_served 16 = .ok (.iconst 2, 1) := by decide +kernel
theorem dL_served_17 : decode cL_served 17 = .ok (.ireturn, 1) := by decide +kernel
theorem dL_served_18 : decode cL_served 18 = .ok (.iconst 0, 1) := by decide +kernel
theorem dL_served_19 : decode cL_served 19 = .ok (.ireturn, 1) := by decide +kernel
theorem dL_write_0 : decode cL_write 0 = .ok (.aload 4, 2) := by decide +kernel
theorem dL_write_2 : decode cL_write 2 = .ok (.iconst 0, 1) := by decide +kernel
theorem dL_write_3 : decode cL_write 3 = .ok (.aload_n 0, 1) := by decide +kernel
theorem dL_write_4 : decode cL_write 4 = .ok (.iload_n 1, 1) := by decide +kernel
theorem dL_write_5 : decode cL_write 5 = .ok (.iload_n 2, 1) := by decide +kernel
theorem dL_write_6 : decode cL_write 6 = .ok (.iload_n 3, 1) := by decide +kernel
theorem dL_write_7 : decode cL_write 7 = .ok (.invokevirtual 42, 3) := by decide +kernel
theorem dL_write_10 : decode cL_write 10 = .ok (.i2l, 1) := by decide +kernel
theorem dL_write_11 : decode cL_write 11 = .ok (.lastore, 1) := by decide +kernel
theorem dL_write_12 : decode cL_write 12 = .ok (.goto 15, 3) := by decide +kernel
theorem dL_write_15 : decode cL_write 15 = .ok (.astore 5, 2) := by decide +kernel
theorem dL_write_17 : decode cL_write 17 = .ok (.iconst 1, 1) := by decide +kernel
theorem dL_write_18 : decode cL_write 18 = .ok (.ireturn, 1) := by decide +kernel
theorem dL_write_19 : decode cL_write 19 = .ok (.astore 5, 2) := by decide +kernel
theorem dL_write_21 : decode cL_write 21 = .ok (.iconst 2, 1) := by decide +kernel
theorem dL_write_22 : decode cL_write 22 = .ok (.ireturn, 1) := by decide +kernel
theorem dL_write_23 : decode cL_write 23 = .ok (.astore 5, 2) := by decide +kernel
theorem dL_write_25 : decode cL_write 25 = .ok (.iconst 3, 1) := by decide +kernel
theorem dL_write_26 : decode cL_write 26 = .ok (.ireturn, 1) := by decide +kernel
theorem dL_write_27 : decode cL_write 27 = .ok (.iconst 0, 1) := by decide +kernel
theorem dL_write_28 : decode cL_write 28 = .ok (.ireturn, 1) := by decide +kernel
theorem dL_link_0 : decode cL_link 0 = .ok (.aload 4, 2) := by decide +kernel
theorem dL_link_2 : decode cL_link 2 = .ok (.iconst 0, 1) := by decide +kernel
theorem dL_link_3 : decode cL_link 3 = .ok (.aload_n 0, 1) := by decide +kernel
theorem dL_link_4 : decode cL_link 4 = .ok (.iload_n 1, 1) := by decide +kernel
theorem dL_link_5 : decode cL_link 5 = .ok (.iload_n 2, 1) := by decide +kernel
theorem dL_link_6 : decode cL_link 6 = .ok (.iload_n 3, 1) := by decide +kernel
theorem dL_link_7 : decode cL_link 7 = .ok (.invokevirtual 45, 3) := by decide +kernel
theorem dL_link_10 : decode cL_link 10 = .ok (.i2l, 1) := by decide +kernel
theorem dL_link_11 : decode cL_link 11 = .ok (.lastore, 1) := by decide +kernel
theorem dL_link_12 : decode cL_link 12 = .ok (.goto 11, 3) := by decide +kernel
theorem dL_link_15 : decode cL_link 15 = .ok (.astore 5, 2) := by decide +kernel
theorem dL_link_17 : decode cL_link 17 = .ok (.iconst 1, 1) := by decide +kernel
theorem dL_link_18 : decode cL_link 18 = .ok (.ireturn, 1) := by decide +kernel
theorem dL_link_19 : decode cL_link 19 = .ok (.astore 5, 2) := by decide +kernel
theorem dL_link_21 : decode cL_link 21 = .ok (.iconst 2, 1) := by decide +kernel
theorem dL_link_22 : decode cL_link 22 = .ok (.ireturn, 1) := by decide +kernel
theorem dL_link_23 : decode cL_link 23 = .ok (.iconst 0, 1) := by decide +kernel
theorem dL_link_24 : decode cL_link 24 = .ok (.ireturn, 1) := by decide +kernel
theorem dL_remove_0 : decode cL_remove 0 = .ok (.aload_n 2, 1) := by decide +kernel
theorem dL_remove_1 : decode cL_remove 1 = .ok (.iconst 0, 1) := by decide +kernel
theorem dL_remove_2 : decode cL_remove 2 = .ok (.aload_n 0, 1) := by decide +kernel
theorem dL_remove_3 : decode cL_remove 3 = .ok (.iload_n 1, 1) := by decide +kernel
theorem dL_remove_4 : decode cL_remove 4 = .ok (.invokevirtual 48, 3) := by decide +kernel
theorem dL_remove_7 : decode cL_remove 7 = .ok (.i2l, 1) := by decide +kernel
theorem dL_remove_8 : decode cL_remove 8 = .ok (.lastore, 1) := by decide +kernel
theorem dL_remove_9 : decode cL_remove 9 = .ok (.goto 9, 3) := by decide +kernel
theorem dL_remove_12 : decode cL_remove 12 = .ok (.astore_n 3, 1) := by decide +kernel
theorem dL_remove_13 : decode cL_remove 13 = .ok (.iconst 1, 1) := by decide +kernel
theorem dL_remove_14 : decode cL_remove 14 = .ok (.ireturn, 1) := by decide +kernel
theorem dL_remove_15 : decode cL_remove 15 = .ok (.astore_n 3, 1) := by decide +kernel
theorem dL_remove_16 : decode cL_remove 16 = .ok (.iconst 2, 1) := by decide +kernel
theorem dL_remove_17 : decode cL_remove 17 = .ok (.ireturn, 1) := by decide +kernel
theorem dL_remove_18 : decode cL_remove 18 = .ok (.iconst 0, 1) := by decide +kernel
theorem dL_remove_19 : decode cL_remove 19 = .ok (.ireturn, 1) := by decide +kernel
theorem dL_shows_0 : decode cL_shows 0 = .ok (.aload_n 2, 1) := by decide +kernel
theorem dL_shows_1 : decode cL_shows 1 = .ok (.iconst 0, 1) := by decide +kernel
theorem dL_shows_2 : decode cL_shows 2 = .ok (.aload_n 0, 1) := by decide +kernel
theorem dL_shows_3 : decode cL_shows 3 = .ok (.iload_n 1, 1) := by decide +kernel
theorem dL_shows_4 : decode cL_shows 4 = .ok (.invokevirtual 51, 3) := by decide +kernel
theorem dL_shows_7 : decode cL_shows 7 = .ok (.i2l, 1) := by decide +kernel
theorem dL_shows_8 : decode cL_shows 8 = .ok (.lastore, 1) := by decide +kernel
theorem dL_shows_9 : decode cL_shows 9 = .ok (.goto 6, 3) := by decide +kernel
theorem dL_shows_12 : decode cL_shows 12 = .ok (.astore_n 3, 1) := by decide +kernel
theorem dL_shows_13 : decode cL_shows 13 = .ok (.iconst 1, 1) := by decide +kernel
theorem dL_shows_14 : decode cL_shows 14 = .ok (.ireturn, 1) := by decide +kernel
theorem dL_shows_15 : decode cL_shows 15 = .ok (.iconst 0, 1) := by decide +kernel
theorem dL_shows_16 : decode cL_shows 16 = .ok (.ireturn, 1) := by decide +kernel
theorem dL_layerOf_0 : decode cL_layerOf 0 = .ok (.aload_n 2, 1) := by decide +kernel
theorem dL_layerOf_1 : decode cL_layerOf 1 = .ok (.iconst 0, 1) := by decide +kernel
theorem dL_layerOf_2 : decode cL_layerOf 2 = .ok (.aload_n 0, 1) := by decide +kernel
theorem dL_layerOf_3 : decode cL_layerOf 3 = .ok (.iload_n 1, 1) := by decide +kernel
theorem dL_layerOf_4 : decode cL_layerOf 4 = .ok (.invokevirtual 55, 3) := by decide +kernel
theorem dL_layerOf_7 : decode cL_layerOf 7 = .ok (.i2l, 1) := by decide +kernel
theorem dL_layerOf_8 : decode cL_layerOf 8 = .ok (.lastore, 1) := by decide +kernel
theorem dL_layerOf_9 : decode cL_layerOf 9 = .ok (.goto 9, 3) := by decide +kernel
theorem dL_layerOf_12 : decode cL_layerOf 12 = .ok (.astore_n 3, 1) := by decide +kernel
theorem dL_layerOf_13 : decode cL_layerOf 13 = .ok (.iconst 1, 1) := by decide +kernel
theorem dL_layerOf_14 : decode cL_layerOf 14 = .ok (.ireturn, 1) := by decide +kernel
theorem dL_layerOf_15 : decode cL_layerOf 15 = .ok (.astore_n 3, 1) := by decide +kernel
theorem dL_layerOf_16 : decode cL_layerOf 16 = .ok (.iconst 2, 1) := by decide +kernel
theorem dL_layerOf_17 : decode cL_layerOf 17 = .ok (.ireturn, 1) := by decide +kernel
theorem dL_layerOf_18 : decode cL_layerOf 18 = .ok (.iconst 0, 1) := by decide +kernel
theorem dL_layerOf_19 : decode cL_layerOf 19 = .ok (.ireturn, 1) := by decide +kernel
theorem dL_end_0 : decode cL_end 0 = .ok (.aload_n 2, 1) := by decide +kernel
theorem dL_end_1 : decode cL_end 1 = .ok (.iconst 0, 1) := by decide +kernel
theorem dL_end_2 : decode cL_end 2 = .ok (.aload_n 0, 1) := by decide +kernel
theorem dL_end_3 : decode cL_end 3 = .ok (.iload_n 1, 1) := by decide +kernel
theorem dL_end_4 : decode cL_end 4 = .ok (.invokevirtual 58, 3) := by decide +kernel
theorem dL_end_7 : decode cL_end 7 = .ok (.i2l, 1) := by decide +kernel
theorem dL_end_8 : decode cL_end 8 = .ok (.lastore, 1) := by decide +kernel
theorem dL_end_9 : decode cL_end 9 = .ok (.goto 12, 3) := by decide +kernel
theorem dL_end_12 : decode cL_end 12 = .ok (.astore_n 3, 1) := by decide +kernel
theorem dL_end_13 : decode cL_end 13 = .ok (.iconst 1, 1) := by decide +kernel
theorem dL_end_14 : decode cL_end 14 = .ok (.ireturn, 1) := by decide +kernel
theorem dL_end_15 : decode cL_end 15 = .ok (.astore_n 3, 1) := by decide +kernel
theorem dL_end_16 : decode cL_end 16 = .ok (.iconst 2, 1) := by decide +kernel
theorem dL_end_17 : decode cL_end 17 = .ok (.ireturn, 1) := by decide +kernel
theorem dL_end_18 : decode cL_end 18 = .ok (.astore_n 3, 1) := by decide +kernel
theorem dL_end_19 : decode cL_end 19 = .ok (.iconst 3, 1) := by decide +kernel
theorem dL_end_20 : decode cL_end 20 = .ok (.ireturn, 1) := by decide +kernel
theorem dL_end_21 : decode cL_end 21 = .ok (.iconst 0, 1) := by decide +kernel
theorem dL_end_22 : decode cL_end 22 = .ok (.ireturn, 1) := by decide +kernel
theorem dL_size_0 : decode cL_size 0 = .ok (.aload_n 2, 1) := by decide +kernel
theorem dL_size_1 : decode cL_size 1 = .ok (.iconst 0, 1) := by decide +kernel
theorem dL_size_2 : decode cL_size 2 = .ok (.aload_n 0, 1) := by decide +kernel
theorem dL_size_3 : decode cL_size 3 = .ok (.iload_n 1, 1) := by decide +kernel
theorem dL_size_4 : decode cL_size 4 = .ok (.invokevirtual 61, 3) := by decide +kernel
theorem dL_size_7 : decode cL_size 7 = .ok (.i2l, 1) := by decide +kernel
theorem dL_size_8 : decode cL_size 8 = .ok (.lastore, 1) := by decide +kernel
theorem dL_size_9 : decode cL_size 9 = .ok (.goto 15, 3) := by decide +kernel
theorem dL_size_12 : decode cL_size 12 = .ok (.astore_n 3, 1) := by decide +kernel
theorem dL_size_13 : decode cL_size 13 = .ok (.iconst 1, 1) := by decide +kernel
theorem dL_size_14 : decode cL_size 14 = .ok (.ireturn, 1) := by decide +kernel
theorem dL_size_15 : decode cL_size 15 = .ok (.astore_n 3, 1) := by decide +kernel
theorem dL_size_16 : decode cL_size 16 = .ok (.iconst 2, 1) := by decide +kernel
theorem dL_size_17 : decode cL_size 17 = .ok (.ireturn, 1) := by decide +kernel
theorem dL_size_18 : decode cL_size 18 = .ok (.astore_n 3, 1) := by decide +kernel
theorem dL_size_19 : decode cL_size 19 = .ok (.iconst 3, 1) := by decide +kernel
theorem dL_size_20 : decode cL_size 20 = .ok (.ireturn, 1) := by decide +kernel
theorem dL_size_21 : decode cL_size 21 = .ok (.astore_n 3, 1) := by decide +kernel
theorem dL_size_22 : decode cL_size 22 = .ok (.iconst 4, 1) := by decide +kernel
theorem dL_size_23 : decode cL_size 23 = .ok (.ireturn, 1) := by decide +kernel
theorem dL_size_24 : decode cL_size 24 = .ok (.iconst 0, 1) := by decide +kernel
theorem dL_size_25 : decode cL_size 25 = .ok (.ireturn, 1) := by decide +kernel
theorem dL_sizeByWalking_0 : decode cL_sizeByWalking 0 = .ok (.aload_n 2, 1) := by decide +kernel
theorem dL_sizeByWalking_1 : decode cL_sizeByWalking 1 = .ok (.iconst 0, 1) := by decide +kernel
theorem dL_sizeByWalking_2 : decode cL_sizeByWalking 2 = .ok (.aload_n 0, 1) := by decide +kernel
theorem dL_sizeByWalking_3 : decode cL_sizeByWalking 3 = .ok (.iload_n 1, 1) := by decide +kernel
theorem dL_sizeByWalking_4 : decode cL_sizeByWalking 4 = .ok (.invokevirtual 64, 3) := by decide +kernel
theorem dL_sizeByWalking_7 : decode cL_sizeByWalking 7 = .ok (.i2l, 1) := by decide +kernel
theorem dL_sizeByWalking_8 : decode cL_sizeByWalking 8 = .ok (.lastore, 1) := by decide +kernel
theorem dL_sizeByWalking_9 : decode cL_sizeByWalking 9 = .ok (.goto 6, 3) := by decide +kernel
theorem dL_sizeByWalking_12 : decode cL_sizeByWalking 12 = .ok (.astore_n 3, 1) := by decide +kernel
theorem dL_sizeByWalking_13 : decode cL_sizeByWalking 13 = .ok (.iconst 1, 1) := by decide +kernel
theorem dL_sizeByWalking_14 : decode cL_sizeByWalking 14 = .ok (.ireturn, 1) := by decide +kernel
theorem dL_sizeByWalking_15 : decode cL_sizeByWalking 15 = .ok (.iconst 0, 1) := by decide +kernel
theorem dL_sizeByWalking_16 : decode cL_sizeByWalking 16 = .ok (.ireturn, 1) := by decide +kernel
theorem dL_ownerOf_0 : decode cL_ownerOf 0 = .ok (.aload_n 2, 1) := by decide +kernel
theorem dL_ownerOf_1 : decode cL_ownerOf 1 = .ok (.iconst 0, 1) := by decide +kernel
theorem dL_ownerOf_2 : decode cL_ownerOf 2 = .ok (.aload_n 0, 1) := by decide +kernel
theorem dL_ownerOf_3 : decode cL_ownerOf 3 = .ok (.iload_n 1, 1) := by decide +kernel
theorem dL_ownerOf_4 : decode cL_ownerOf 4 = .ok (.invokevirtual 67, 3) := by decide +kernel
theorem dL_ownerOf_7 : decode cL_ownerOf 7 = .ok (.i2l, 1) := by decide +kernel
theorem dL_ownerOf_8 : decode cL_ownerOf 8 = .ok (.lastore, 1) := by decide +kernel
theorem dL_ownerOf_9 : decode cL_ownerOf 9 = .ok (.goto 9, 3) := by decide +kernel
theorem dL_ownerOf_12 : decode cL_ownerOf 12 = .ok (.astore_n 3, 1) := by decide +kernel
theorem dL_ownerOf_13 : decode cL_ownerOf 13 = .ok (.iconst 1, 1) := by decide +kernel
theorem dL_ownerOf_14 : decode cL_ownerOf 14 = .ok (.ireturn, 1) := by decide +kernel
theorem dL_ownerOf_15 : decode cL_ownerOf 15 = .ok (.astore_n 3, 1) := by decide +kernel
theorem dL_ownerOf_16 : decode cL_ownerOf 16 = .ok (.iconst 2, 1) := by decide +kernel
theorem dL_ownerOf_17 : decode cL_ownerOf 17 = .ok (.ireturn, 1) := by decide +kernel
theorem dL_ownerOf_18 : decode cL_ownerOf 18 = .ok (.iconst 0, 1) := by decide +kernel
theorem dL_ownerOf_19 : decode cL_ownerOf 19 = .ok (.ireturn, 1) := by decide +kernel
theorem dL_setQuota_0 : decode cL_setQuota 0 = .ok (.aload_n 3, 1) := by decide +kernel
theorem dL_setQuota_1 : decode cL_setQuota 1 = .ok (.iconst 0, 1) := by decide +kernel
theorem dL_setQuota_2 : decode cL_setQuota 2 = .ok (.aload_n 0, 1) := by decide +kernel
theorem dL_setQuota_3 : decode cL_setQuota 3 = .ok (.iload_n 1, 1) := by decide +kernel
theorem dL_setQuota_4 : decode cL_setQuota 4 = .ok (.iload_n 2, 1) := by decide +kernel
theorem dL_setQuota_5 : decode cL_setQuota 5 = .ok (.invokevirtual 70, 3) := by decide +kernel
theorem dL_setQuota_8 : decode cL_setQuota 8 = .ok (.i2l, 1) := by decide +kernel
theorem dL_setQuota_9 : decode cL_setQuota 9 = .ok (.lastore, 1) := by decide +kernel
theorem dL_setQuota_10 : decode cL_setQuota 10 = .ok (.goto 7, 3) := by decide +kernel
theorem dL_setQuota_13 : decode cL_setQuota 13 = .ok (.astore 4, 2) := by decide +kernel
theorem dL_setQuota_15 : decode cL_setQuota 15 = .ok (.iconst 1, 1) := by decide +kernel
theorem dL_setQuota_16 : decode cL_setQuota 16 = .ok (.ireturn, 1) := by decide +kernel
theorem dL_setQuota_17 : decode cL_setQuota 17 = .ok (.iconst 0, 1) := by decide +kernel
theorem dL_setQuota_18 : decode cL_setQuota 18 = .ok (.ireturn, 1) := by decide +kernel
theorem dL_used_0 : decode cL_used 0 = .ok (.aload_n 2, 1) := by decide +kernel
theorem dL_used_1 : decode cL_used 1 = .ok (.iconst 0, 1) := by decide +kernel
theorem dL_used_2 : decode cL_used 2 = .ok (.aload_n 0, 1) := by decide +kernel
theorem dL_used_3 : decode cL_used 3 = .ok (.iload_n 1, 1) := by decide +kernel
theorem dL_used_4 : decode cL_used 4 = .ok (.invokevirtual 73, 3) := by decide +kernel
theorem dL_used_7 : decode cL_used 7 = .ok (.i2l, 1) := by decide +kernel
theorem dL_used_8 : decode cL_used 8 = .ok (.lastore, 1) := by decide +kernel
theorem dL_used_9 : decode cL_used 9 = .ok (.goto 6, 3) := by decide +kernel
theorem dL_used_12 : decode cL_used 12 = .ok (.astore_n 3, 1) := by decide +kernel
theorem dL_used_13 : decode cL_used 13 = .ok (.iconst 1, 1) := by decide +kernel
theorem dL_used_14 : decode cL_used 14 = .ok (.ireturn, 1) := by decide +kernel
theorem dL_used_15 : decode cL_used 15 = .ok (.iconst 0, 1) := by decide +kernel
theorem dL_used_16 : decode cL_used 16 = .ok (.ireturn, 1) := by decide +kernel
theorem dL_usedByLayers_0 : decode cL_usedByLayers 0 = .ok (.aload_n 2, 1) := by decide +kernel
theorem dL_usedByLayers_1 : decode cL_usedByLayers 1 = .ok (.iconst 0, 1) := by decide +kernel
theorem dL_usedByLayers_2 : decode cL_usedByLayers 2 = .ok (.aload_n 0, 1) := by decide +kernel
theorem dL_usedByLayers_3 : decode cL_usedByLayers 3 = .ok (.iload_n 1, 1) := by decide +kernel
theorem dL_usedByLayers_4 : decode cL_usedByLayers 4 = .ok (.invokevirtual 76, 3) := by decide +kernel
theorem dL_usedByLayers_7 : decode cL_usedByLayers 7 = .ok (.i2l, 1) := by decide +kernel
theorem dL_usedByLayers_8 : decode cL_usedByLayers 8 = .ok (.lastore, 1) := by decide +kernel
theorem dL_usedByLayers_9 : decode cL_usedByLayers 9 = .ok (.goto 6, 3) := by decide +kernel
theorem dL_usedByLayers_12 : decode cL_usedByLayers 12 = .ok (.astore_n 3, 1) := by decide +kernel
theorem dL_usedByLayers_13 : decode cL_usedByLayers 13 = .ok (.iconst 1, 1) := by decide +kernel
theorem dL_usedByLayers_14 : decode cL_usedByLayers 14 = .ok (.ireturn, 1) := by decide +kernel
theorem dL_usedByLayers_15 : decode cL_usedByLayers 15 = .ok (.iconst 0, 1) := by decide +kernel
theorem dL_usedByLayers_16 : decode cL_usedByLayers 16 = .ok (.ireturn, 1) := by decide +kernel
theorem dL_whiteouts_0 : decode cL_whiteouts 0 = .ok (.aload_n 2, 1) := by decide +kernel
theorem dL_whiteouts_1 : decode cL_whiteouts 1 = .ok (.iconst 0, 1) := by decide +kernel
theorem dL_whiteouts_2 : decode cL_whiteouts 2 = .ok (.aload_n 0, 1) := by decide +kernel
theorem dL_whiteouts_3 : decode cL_whiteouts 3 = .ok (.iload_n 1, 1) := by decide +kernel
theorem dL_whiteouts_4 : decode cL_whiteouts 4 = .ok (.invokevirtual 79, 3) := by decide +kernel
theorem dL_whiteouts_7 : decode cL_whiteouts 7 = .ok (.i2l, 1) := by decide +kernel
theorem dL_whiteouts_8 : decode cL_whiteouts 8 = .ok (.lastore, 1) := by decide +kernel
theorem dL_whiteouts_9 : decode cL_whiteouts 9 = .ok (.goto 6, 3) := by decide +kernel
theorem dL_whiteouts_12 : decode cL_whiteouts 12 = .ok (.astore_n 3, 1) := by decide +kernel
theorem dL_whiteouts_13 : decode cL_whiteouts 13 = .ok (.iconst 1, 1) := by decide +kernel
theorem dL_whiteouts_14 : decode cL_whiteouts 14 = .ok (.ireturn, 1) := by decide +kernel
theorem dL_whiteouts_15 : decode cL_whiteouts 15 = .ok (.iconst 0, 1) := by decide +kernel
theorem dL_whiteouts_16 : decode cL_whiteouts 16 = .ok (.ireturn, 1) := by decide +kernel
theorem dL_backUp_0 : decode cL_backUp 0 = .ok (.aload_n 2, 1) := by decide +kernel
theorem dL_backUp_1 : decode cL_backUp 1 = .ok (.iconst 0, 1) := by decide +kernel
theorem dL_backUp_2 : decode cL_backUp 2 = .ok (.aload_n 0, 1) := by decide +kernel
theorem dL_backUp_3 : decode cL_backUp 3 = .ok (.iload_n 1, 1) := by decide +kernel
theorem dL_backUp_4 : decode cL_backUp 4 = .ok (.invokevirtual 82, 3) := by decide +kernel
theorem dL_backUp_7 : decode cL_backUp 7 = .ok (.i2l, 1) := by decide +kernel
theorem dL_backUp_8 : decode cL_backUp 8 = .ok (.lastore, 1) := by decide +kernel
theorem dL_backUp_9 : decode cL_backUp 9 = .ok (.goto 6, 3) := by decide +kernel
theorem dL_backUp_12 : decode cL_backUp 12 = .ok (.astore_n 3, 1) := by decide +kernel
theorem dL_backUp_13 : decode cL_backUp 13 = .ok (.iconst 1, 1) := by decide +kernel
theorem dL_backUp_14 : decode cL_backUp 14 = .ok (.ireturn, 1) := by decide +kernel
theorem dL_backUp_15 : decode cL_backUp 15 = .ok (.iconst 0, 1) := by decide +kernel
theorem dL_backUp_16 : decode cL_backUp 16 = .ok (.ireturn, 1) := by decide +kernel
theorem dL_bytes_0 : decode cL_bytes 0 = .ok (.aload_n 2, 1) := by decide +kernel
theorem dL_bytes_1 : decode cL_bytes 1 = .ok (.iconst 0, 1) := by decide +kernel
theorem dL_bytes_2 : decode cL_bytes 2 = .ok (.aload_n 0, 1) := by decide +kernel
theorem dL_bytes_3 : decode cL_bytes 3 = .ok (.iload_n 1, 1) := by decide +kernel
theorem dL_bytes_4 : decode cL_bytes 4 = .ok (.invokevirtual 86, 3) := by decide +kernel
theorem dL_bytes_7 : decode cL_bytes 7 = .ok (.i2l, 1) := by decide +kernel
theorem dL_bytes_8 : decode cL_bytes 8 = .ok (.lastore, 1) := by decide +kernel
theorem dL_bytes_9 : decode cL_bytes 9 = .ok (.goto 6, 3) := by decide +kernel
theorem dL_bytes_12 : decode cL_bytes 12 = .ok (.astore_n 3, 1) := by decide +kernel
theorem dL_bytes_13 : decode cL_bytes 13 = .ok (.iconst 1, 1) := by decide +kernel
theorem dL_bytes_14 : decode cL_bytes 14 = .ok (.ireturn, 1) := by decide +kernel
theorem dL_bytes_15 : decode cL_bytes 15 = .ok (.iconst 0, 1) := by decide +kernel
theorem dL_bytes_16 : decode cL_bytes 16 = .ok (.ireturn, 1) := by decide +kernel
theorem dL_differences_0 : decode cL_differences 0 = .ok (.aload_n 2, 1) := by decide +kernel
theorem dL_differences_1 : decode cL_differences 1 = .ok (.iconst 0, 1) := by decide +kernel
theorem dL_differences_2 : decode cL_differences 2 = .ok (.aload_n 0, 1) := by decide +kernel
theorem dL_differences_3 : decode cL_differences 3 = .ok (.iload_n 1, 1) := by decide +kernel
theorem dL_differences_4 : decode cL_differences 4 = .ok (.invokevirtual 89, 3) := by decide +kernel
theorem dL_differences_7 : decode cL_differences 7 = .ok (.i2l, 1) := by decide +kernel
theorem dL_differences_8 : decode cL_differences 8 = .ok (.lastore, 1) := by decide +kernel
theorem dL_differences_9 : decode cL_differences 9 = .ok (.goto 6, 3) := by decide +kernel
theorem dL_differences_12 : decode cL_differences 12 = .ok (.astore_n 3, 1) := by decide +kernel
theorem dL_differences_13 : decode cL_differences 13 = .ok (.iconst 1, 1) := by decide +kernel
theorem dL_differences_14 : decode cL_differences 14 = .ok (.ireturn, 1) := by decide +kernel
theorem dL_differences_15 : decode cL_differences 15 = .ok (.iconst 0, 1) := by decide +kernel
theorem dL_differences_16 : decode cL_differences 16 = .ok (.ireturn, 1) := by decide +kernel
theorem dL_shownShare_0 : decode cL_shownShare 0 = .ok (.aload_n 1, 1) := by decide +kernel
theorem dL_shownShare_1 : decode cL_shownShare 1 = .ok (.iconst 0, 1) := by decide +kernel
theorem dL_shownShare_2 : decode cL_shownShare 2 = .ok (.aload_n 0, 1) := by decide +kernel
theorem dL_shownShare_3 : decode cL_shownShare 3 = .ok (.invokevirtual 92, 3) := by decide +kernel
theorem dL_shownShare_6 : decode cL_shownShare 6 = .ok (.f2d, 1) := by decide +kernel
theorem dL_shownShare_7 : decode cL_shownShare 7 = .ok (.dastore, 1) := by decide +kernel
theorem dL_shownShare_8 : decode cL_shownShare 8 = .ok (.goto 6, 3) := by decide +kernel
theorem dL_shownShare_11 : decode cL_shownShare 11 = .ok (.astore_n 2, 1) := by decide +kernel
theorem dL_shownShare_12 : decode cL_shownShare 12 = .ok (.iconst 1, 1) := by decide +kernel
theorem dL_shownShare_13 : decode cL_shownShare 13 = .ok (.ireturn, 1) := by decide +kernel
theorem dL_shownShare_14 : decode cL_shownShare 14 = .ok (.iconst 0, 1) := by decide +kernel
theorem dL_shownShare_15 : decode cL_shownShare 15 = .ok (.ireturn, 1) := by decide +kernel
theorem dL_meanSize_0 : decode cL_meanSize 0 = .ok (.aload_n 2, 1) := by decide +kernel
theorem dL_meanSize_1 : decode cL_meanSize 1 = .ok (.iconst 0, 1) := by decide +kernel
theorem dL_meanSize_2 : decode cL_meanSize 2 = .ok (.aload_n 0, 1) := by decide +kernel
theorem dL_meanSize_3 : decode cL_meanSize 3 = .ok (.iload_n 1, 1) := by decide +kernel
theorem dL_meanSize_4 : decode cL_meanSize 4 = .ok (.invokevirtual 98, 3) := by decide +kernel
theorem dL_meanSize_7 : decode cL_meanSize 7 = .ok (.dastore, 1) := by decide +kernel
theorem dL_meanSize_8 : decode cL_meanSize 8 = .ok (.goto 9, 3) := by decide +kernel
theorem dL_meanSize_11 : decode cL_meanSize 11 = .ok (.astore_n 3, 1) := by decide +kernel
theorem dL_meanSize_12 : decode cL_meanSize 12 = .ok (.iconst 1, 1) := by decide +kernel
theorem dL_meanSize_13 : decode cL_meanSize 13 = .ok (.ireturn, 1) := by decide +kernel
theorem dL_meanSize_14 : decode cL_meanSize 14 = .ok (.astore_n 3, 1) := by decide +kernel
theorem dL_meanSize_15 : decode cL_meanSize 15 = .ok (.iconst 2, 1) := by decide +kernel
theorem dL_meanSize_16 : decode cL_meanSize 16 = .ok (.ireturn, 1) := by decide +kernel
theorem dL_meanSize_17 : decode cL_meanSize 17 = .ok (.iconst 0, 1) := by decide +kernel
theorem dL_meanSize_18 : decode cL_meanSize 18 = .ok (.ireturn, 1) := by decide +kernel
theorem dL_law_0 : decode cL_law 0 = .ok (.new 8, 3) := by decide +kernel
theorem dL_law_3 : decode cL_law 3 = .ok (.dup, 1) := by decide +kernel
theorem dL_law_4 : decode cL_law 4 = .ok (.invokespecial 102, 3) := by decide +kernel
theorem dL_law_7 : decode cL_law 7 = .ok (.astore_n 1, 1) := by decide +kernel
theorem dL_law_8 : decode cL_law 8 = .ok (.new 103, 3) := by decide +kernel
theorem dL_law_11 : decode cL_law 11 = .ok (.dup, 1) := by decide +kernel
theorem dL_law_12 : decode cL_law 12 = .ok (.invokespecial 105, 3) := by decide +kernel
theorem dL_law_15 : decode cL_law 15 = .ok (.astore_n 2, 1) := by decide +kernel
theorem dL_law_16 : decode cL_law 16 = .ok (.iconst 1, 1) := by decide +kernel
theorem dL_law_17 : decode cL_law 17 = .ok (.newarray .long, 2) := by decide +kernel
theorem dL_law_19 : decode cL_law 19 = .ok (.astore_n 3, 1) := by decide +kernel
theorem dL_law_20 : decode cL_law 20 = .ok (.iconst 1, 1) := by decide +kernel
theorem dL_law_21 : decode cL_law 21 = .ok (.newarray .double, 2) := by decide +kernel
theorem dL_law_23 : decode cL_law 23 = .ok (.astore 4, 2) := by decide +kernel
theorem dL_law_25 : decode cL_law 25 = .ok (.iconst 0, 1) := by decide +kernel
theorem dL_law_26 : decode cL_law 26 = .ok (.istore 5, 2) := by decide +kernel
theorem dL_law_28 : decode cL_law 28 = .ok (.iload 5, 2) := by decide +kernel
theorem dL_law_30 : decode cL_law 30 = .ok (.aload_n 0, 1) := by decide +kernel
theorem dL_law_31 : decode cL_law 31 = .ok (.arraylength, 1) := by decide +kernel
theorem dL_law_32 : decode cL_law 32 = .ok (.iconst 4, 1) := by decide +kernel
theorem dL_law_33 : decode cL_law 33 = .ok (.isub, 1) := by decide +kernel
theorem dL_law_34 : decode cL_law 34 = .ok (.if_icmp .gt 997, 3) := by decide +kernel
theorem dL_law_37 : decode cL_law 37 = .ok (.aload_n 0, 1) := by decide +kernel
theorem dL_law_38 : decode cL_law 38 = .ok (.iload 5, 2) := by decide +kernel
theorem dL_law_40 : decode cL_law 40 = .ok (.iaload, 1) := by decide +kernel
theorem dL_law_41 : decode cL_law 41 = .ok (.bipush 31, 2) := by decide +kernel
theorem dL_law_43 : decode cL_law 43 = .ok (.iand, 1) := by decide +kernel
theorem dL_law_44 : decode cL_law 44 = .ok (.tableswitch 981 0 26 #[124, 168, 220, 248, 288, 344, 372, 385, 437, 489, 517, 545, 573, 601, 629, 657, 685, 725, 753, 781, 794, 807, 835, 879, 907, 935, 952], 124) := by decide +kernel
theorem dL_law_168 : decode cL_law 168 = .ok (.aload_n 1, 1) := by decide +kernel
theorem dL_law_169 : decode cL_law 169 = .ok (.aload_n 3, 1) := by decide +kernel
theorem dL_law_170 : decode cL_law 170 = .ok (.invokestatic 106, 3) := by decide +kernel
theorem dL_law_173 : decode cL_law 173 = .ok (.istore 6, 2) := by decide +kernel
theorem dL_law_175 : decode cL_law 175 = .ok (.aload_n 2, 1) := by decide +kernel
theorem dL_law_176 : decode cL_law 176 = .ok (.invokevirtual 111, 3) := by decide +kernel
theorem dL_law_179 : decode cL_law 179 = .ok (.istore 7, 2) := by decide +kernel
theorem dL_law_181 : decode cL_law 181 = .ok (.aload_n 2, 1) := by decide +kernel
theorem dL_law_182 : decode cL_law 182 = .ok (.invokevirtual 112, 3) := by decide +kernel
theorem dL_law_185 : decode cL_law 185 = .ok (.iload 6, 2) := by decide +kernel
theorem dL_law_187 : decode cL_law 187 = .ok (.if_icmp .eq 5, 3) := by decide +kernel
theorem dL_law_190 : decode cL_law 190 = .ok (.iconst 0, 1) := by decide +kernel
theorem dL_law_191 : decode cL_law 191 = .ok (.ireturn, 1) := by decide +kernel
theorem dL_law_192 : decode cL_law 192 = .ok (.iload 6, 2) := by decide +kernel
theorem dL_law_194 : decode cL_law 194 = .ok (.ifCond .ne 15, 3) := by decide +kernel
theorem dL_law_197 : decode cL_law 197 = .ok (.aload_n 3, 1) := by decide +kernel
theorem dL_law_198 : decode cL_law 198 = .ok (.iconst 0, 1) := by decide +kernel
theorem dL_law_199 : decode cL_law 199 = .ok (.laload, 1) := by decide +kernel
theorem dL_law_200 : decode cL_law 200 = .ok (.iload 7, 2) := by decide +kernel
theorem dL_law_202 : decode cL_law 202 = .ok (.i2l, 1) := by decide +kernel
theorem dL_law_203 : decode cL_law 203 = .ok (.lcmp, 1) := by decide +kernel
theorem dL_law_204 : decode cL_law 204 = .ok (.ifCond .eq 5, 3) := by decide +kernel
theorem dL_law_207 : decode cL_law 207 = .ok (.iconst 0, 1) := by decide +kernel
theorem dL_law_208 : decode cL_law 208 = .ok (.ireturn, 1) := by decide +kernel
theorem dL_law_209 : decode cL_law 209 = .ok (.goto 816, 3) := by decide +kernel
theorem dL_law_212 : decode cL_law 212 = .ok (.aload_n 1, 1) := by decide +kernel
theorem dL_law_213 : decode cL_law 213 = .ok (.aload_n 0, 1) := by decide +kernel
theorem dL_law_214 : decode cL_law 214 = .ok (.iload 5, 2) := by decide +kernel
theorem dL_law_216 : decode cL_law 216 = .ok (.iconst 1, 1) := by decide +kernel
theorem dL_law_217 : decode cL_law 217 = .ok (.iadd, 1) := by decide +kernel
theorem dL_law_218 : decode cL_law 218 = .ok (.iaload, 1) := by decide +kernel
theorem dL_law_219 : decode cL_law 219 = .ok (.aload_n 0, 1) := by decide +kernel
theorem dL_law_220 : decode cL_law 220 = .ok (.iload 5, 2) := by decide +kernel
theorem dL_law_222 : decode cL_law 222 = .ok (.iconst 2, 1) := by decide +kernel
theorem dL_law_223 : decode cL_law 223 = .ok (.iadd, 1) := by decide +kernel
theorem dL_law_224 : decode cL_law 224 = .ok (.iaload, 1) := by decide +kernel
theorem dL_law_225 : decode cL_law 225 = .ok (.aload_n 0, 1) := by decide +kernel
theorem dL_law_226 : decode cL_law 226 = .ok (.iload 5, 2) := by decide +kernel
theorem dL_law_228 : decode cL_law 228 = .ok (.iconst 3, 1) := by decide +kernel
theorem dL_law_229 : decode cL_law 229 = .ok (.iadd, 1) := by decide +kernel
theorem dL_law_230 : decode cL_law 230 = .ok (.iaload, 1) := by decide +kernel
theorem dL_law_231 : decode cL_law 231 = .ok (.aload_n 3, 1) := by decide +kernel
theorem dL_law_232 : decode cL_law 232 = .ok (.invokestatic 115, 3) := by decide +kernel
theorem dL_law_235 : decode cL_law 235 = .ok (.istore 6, 2) := by decide +kernel
theorem dL_law_237 : decode cL_law 237 = .ok (.aload_n 2, 1) := by decide +kernel
theorem dL_law_238 : decode cL_law 238 = .ok (.aload_n 0, 1) := by decide +kernel
theorem dL_law_239 : decode cL_law 239 = .ok (.iload 5, 2) := by decide +kernel
theorem dL_law_241 : decode cL_law 241 = .ok (.iconst 1, 1) := by decide +kernel
theorem dL_law_242 : decode cL_law 242 = .ok (.iadd, 1) := by decide +kernel
theorem dL_law_243 : decode cL_law 243 = .ok (.iaload, 1) := by decide +kernel
theorem dL_law_244 : decode cL_law 244 = .ok (.aload_n 0, 1) := by decide +kernel
theorem dL_law_245 : decode cL_law 245 = .ok (.iload 5, 2) := by decide +kernel
theorem dL_law_247 : decode cL_law 247 = .ok (.iconst 2, 1) := by decide +kernel
theorem dL_law_248 : decode cL_law 248 = .ok (.iadd, 1) := by decide +kernel
theorem dL_law_249 : decode cL_law 249 = .ok (.iaload, 1) := by decide +kernel
theorem dL_law_250 : decode cL_law 250 = .ok (.aload_n 0, 1) := by decide +kernel
theorem dL_law_251 : decode cL_law 251 = .ok (.iload 5, 2) := by decide +kernel
theorem dL_law_253 : decode cL_law 253 = .ok (.iconst 3, 1) := by decide +kernel
theorem dL_law_254 : decode cL_law 254 = .ok (.iadd, 1) := by decide +kernel
theorem dL_law_255 : decode cL_law 255 = .ok (.iaload, 1) := by decide +kernel
theorem dL_law_256 : decode cL_law 256 = .ok (.invokevirtual 118, 3) := by decide +kernel
theorem dL_law_259 : decode cL_law 259 = .ok (.istore 7, 2) := by decide +kernel
theorem dL_law_261 : decode cL_law 261 = .ok (.goto 764, 3) := by decide +kernel
theorem dL_law_264 : decode cL_law 264 = .ok (.aload_n 1, 1) := by decide +kernel
theorem dL_law_265 : decode cL_law 265 = .ok (.aload_n 0, 1) := by decide +kernel
theorem dL_law_266 : decode cL_law 266 = .ok (.iload 5, 2) := by decide +kernel
theorem dL_law_268 : decode cL_law 268 = .ok (.iconst 1, 1) := by decide +kernel
theorem dL_law_269 : decode cL_law 269 = .ok (.iadd, 1) := by decide +kernel
theorem dL_law_270 : decode cL_law 270 = .ok (.iaload, 1) := by decide +kernel
theorem dL_law_271 : decode cL_law 271 = .ok (.aload_n 3, 1) := by decide +kernel
theorem dL_law_272 : decode cL_law 272 = .ok (.invokestatic 119, 3) := by decide +kernel
theorem dL_law_275 : decode cL_law 275 = .ok (.istore 6, 2) := by decide +kernel
theorem dL_law_277 : decode cL_law 277 = .ok (.aload_n 2, 1) := by decide +kernel
theorem dL_law_278 : decode cL_law 278 = .ok (.aload_n 0, 1) := by decide +kernel
theorem dL_law_279 : decode cL_law 279 = .ok (.iload 5, 2) := by decide +kernel
theorem dL_law_281 : decode cL_law 281 = .ok (.iconst 1, 1) := by decide +kernel
theorem dL_law_282 : decode cL_law 282 = .ok (.iadd, 1) := by decide +kernel
theorem dL_law_283 : decode cL_law 283 = .ok (.iaload, 1) := by decide +kernel
theorem dL_law_284 : decode cL_law 284 = .ok (.invokevirtual 122, 3) := by decide +kernel
theorem dL_law_287 : decode cL_law 287 = .ok (.istore 7, 2) := by decide +kernel
theorem dL_law_289 : decode cL_law 289 = .ok (.goto 736, 3) := by decide +kernel
theorem dL_law_292 : decode cL_law 292 = .ok (.aload_n 1, 1) := by decide +kernel
theorem dL_law_293 : decode cL_law 293 = .ok (.aload_n 0, 1) := by decide +kernel
theorem dL_law_294 : decode cL_law 294 = .ok (.iload 5, 2) := by decide +kernel
theorem dL_law_296 : decode cL_law 296 = .ok (.iconst 1, 1) := by decide +kernel
theorem dL_law_297 : decode cL_law 297 = .ok (.iadd, 1) := by decide +kernel
theorem dL_law_298 : decode cL_law 298 = .ok (.iaload, 1) := by decide +kernel
theorem dL_law_299 : decode cL_law 299 = .ok (.aload_n 0, 1) := by decide +kernel
theorem dL_law_300 : decode cL_law 300 = .ok (.iload 5, 2) := by decide +kernel
theorem dL_law_302 : decode cL_law 302 = .ok (.iconst 2, 1) := by decide +kernel
theorem dL_law_303 : decode cL_law 303 = .ok (.iadd, 1) := by decide +kernel
theorem dL_law_304 : decode cL_law 304 = .ok (.iaload, 1) := by decide +kernel
theorem dL_law_305 : decode cL_law 305 = .ok (.aload_n 3, 1) := by decide +kernel
theorem dL_law_306 : decode cL_law 306 = .ok (.invokestatic 123, 3) := by decide +kernel
theorem dL_law_309 : decode cL_law 309 = .ok (.istore 6, 2) := by decide +kernel
theorem dL_law_311 : decode cL_law 311 = .ok (.aload_n 2, 1) := by decide +kernel
theorem dL_law_312 : decode cL_law 312 = .ok (.aload_n 0, 1) := by decide +kernel
theorem dL_law_313 : decode cL_law 313 = .ok (.iload 5, 2) := by decide +kernel
theorem dL_law_315 : decode cL_law 315 = .ok (.iconst 1, 1) := by decide +kernel
theorem dL_law_316 : decode cL_law 316 = .ok (.iadd, 1) := by decide +kernel
theorem dL_law_317 : decode cL_law 317 = .ok (.iaload, 1) := by decide +kernel
theorem dL_law_318 : decode cL_law 318 = .ok (.aload_n 0, 1) := by decide +kernel
theorem dL_law_319 : decode cL_law 319 = .ok (.iload 5, 2) := by decide +kernel
theorem dL_law_321 : decode cL_law 321 = .ok (.iconst 2, 1) := by decide +kernel
theorem dL_law_322 : decode cL_law 322 = .ok (.iadd, 1) := by decide +kernel
theorem dL_law_323 : decode cL_law 323 = .ok (.iaload, 1) := by decide +kernel
theorem dL_law_324 : decode cL_law 324 = .ok (.invokevirtual 126, 3) := by decide +kernel
theorem dL_law_327 : decode cL_law 327 = .ok (.istore 7, 2) := by decide +kernel
theorem dL_law_329 : decode cL_law 329 = .ok (.goto 696, 3) := by decide +kernel
theorem dL_law_332 : decode cL_law 332 = .ok (.aload_n 1, 1) := by decide +kernel
theorem dL_law_333 : decode cL_law 333 = .ok (.aload_n 0, 1) := by decide +kernel
theorem dL_law_334 : decode cL_law 334 = .ok (.iload 5, 2) := by decide +kernel
theorem dL_law_336 : decode cL_law 336 = .ok (.iconst 1, 1) := by decide +kernel
theorem dL_law_337 : decode cL_law 337 = .ok (.iadd, 1) := by decide +kernel
theorem dL_law_338 : decode cL_law 338 = .ok (.iaload, 1) := by decide +kernel
theorem dL_law_339 : decode cL_law 339 = .ok (.aload_n 0, 1) := by decide +kernel
theorem dL_law_340 : decode cL_law 340 = .ok (.iload 5, 2) := by decide +kernel
theorem dL_law_342 : decode cL_law 342 = .ok (.iconst 2, 1) := by decide +kernel
theorem dL_law_343 : decode cL_law 343 = .ok (.iadd, 1) := by decide +kernel
theorem dL_law_344 : decode cL_law 344 = .ok (.iaload, 1) := by decide +kernel
theorem dL_law_345 : decode cL_law 345 = .ok (.ifCond .eq 7, 3) := by decide +kernel
theorem dL_law_348 : decode cL_law 348 = .ok (.iconst 1, 1) := by decide +kernel
theorem dL_law_349 : decode cL_law 349 = .ok (.goto 4, 3) := by decide +kernel
theorem dL_law_352 : decode cL_law 352 = .ok (.iconst 0, 1) := by decide +kernel
theorem dL_law_353 : decode cL_law 353 = .ok (.aload_n 3, 1) := by decide +kernel
theorem dL_law_354 : decode cL_law 354 = .ok (.invokestatic 127, 3) := by decide +kernel
theorem dL_law_357 : decode cL_law 357 = .ok (.istore 6, 2) := by decide +kernel
theorem dL_law_359 : decode cL_law 359 = .ok (.aload_n 2, 1) := by decide +kernel
theorem dL_law_360 : decode cL_law 360 = .ok (.aload_n 0, 1) := by decide +kernel
theorem dL_law_361 : decode cL_law 361 = .ok (.iload 5, 2) := by decide +kernel
theorem dL_law_363 : decode cL_law 363 = .ok (.iconst 1, 1) := by decide +kernel
theorem dL_law_364 : decode cL_law 364 = .ok (.iadd, 1) := by decide +kernel
theorem dL_law_365 : decode cL_law 365 = .ok (.iaload, 1) := by decide +kernel
theorem dL_law_366 : decode cL_law 366 = .ok (.aload_n 0, 1) := by decide +kernel
theorem dL_law_367 : decode cL_law 367 = .ok (.iload 5, 2) := by decide +kernel
theorem dL_law_369 : decode cL_law 369 = .ok (.iconst 2, 1) := by decide +kernel
theorem dL_law_370 : decode cL_law 370 = .ok (.iadd, 1) := by decide +kernel
theorem dL_law_371 : decode cL_law 371 = .ok (.iaload, 1) := by decide +kernel
theorem dL_law_372 : decode cL_law 372 = .ok (.ifCond .eq 7, 3) := by decide +kernel
theorem dL_law_375 : decode cL_law 375 = .ok (.iconst 1, 1) := by decide +kernel
theorem dL_law_376 : decode cL_law 376 = .ok (.goto 4, 3) := by decide +kernel
theorem dL_law_379 : decode cL_law 379 = .ok (.iconst 0, 1) := by decide +kernel
theorem dL_law_380 : decode cL_law 380 = .ok (.invokevirtual 130, 3) := by decide +kernel
theorem dL_law_383 : decode cL_law 383 = .ok (.istore 7, 2) := by decide +kernel
theorem dL_law_385 : decode cL_law 385 = .ok (.goto 640, 3) := by decide +kernel
theorem dL_law_388 : decode cL_law 388 = .ok (.aload_n 1, 1) := by decide +kernel
theorem dL_law_389 : decode cL_law 389 = .ok (.aload_n 0, 1) := by decide +kernel
theorem dL_law_390 : decode cL_law 390 = .ok (.iload 5, 2) := by decide +kernel
theorem dL_law_392 : decode cL_law 392 = .ok (.iconst 1, 1) := by decide +kernel
theorem dL_law_393 : decode cL_law 393 = .ok (.iadd, 1) := by decide +kernel
theorem dL_law_394 : decode cL_law 394 = .ok (.iaload, 1) := by decide +kernel
theorem dL_law_395 : decode cL_law 395 = .ok (.aload_n 3, 1) := by decide +kernel
theorem dL_law_396 : decode cL_law 396 = .ok (.invokestatic 131, 3) := by decide +kernel
theorem dL_law_399 : decode cL_law 399 = .ok (.istore 6, 2) := by decide +kernel
theorem dL_law_401 : decode cL_law 401 = .ok (.aload_n 2, 1) := by decide +kernel
theorem dL_law_402 : decode cL_law 402 = .ok (.aload_n 0, 1) := by decide +kernel
theorem dL_law_403 : decode cL_law 403 = .ok (.iload 5, 2) := by decide +kernel
theorem dL_law_405 : decode cL_law 405 = .ok (.iconst 1, 1) := by decide +kernel
theorem dL_law_406 : decode cL_law 406 = .ok (.iadd, 1) := by decide +kernel
theorem dL_law_407 : decode cL_law 407 = .ok (.iaload, 1) := by decide +kernel
theorem dL_law_408 : decode cL_law 408 = .ok (.invokevirtual 133, 3) := by decide +kernel
theorem dL_law_411 : decode cL_law 411 = .ok (.istore 7, 2) := by decide +kernel
theorem dL_law_413 : decode cL_law 413 = .ok (.goto 612, 3) := by decide +kernel
theorem dL_law_416 : decode cL_law 416 = .ok (.aload_n 1, 1) := by decide +kernel
theorem dL_law_417 : decode cL_law 417 = .ok (.invokevirtual 134, 3) := by decide +kernel
theorem dL_law_420 : decode cL_law 420 = .ok (.pop, 1) := by decide +kernel
theorem dL_law_421 : decode cL_law 421 = .ok (.aload_n 2, 1) := by decide +kernel
theorem dL_law_422 : decode cL_law 422 = .ok (.invokevirtual 137, 3) := by decide +kernel
theorem dL_law_425 : decode cL_law 425 = .ok (.pop, 1) := by decide +kernel
theorem dL_law_426 : decode cL_law 426 = .ok (.goto 599, 3) := by decide +kernel
theorem dL_law_429 : decode cL_law 429 = .ok (.aload_n 1, 1) := by decide +kernel
theorem dL_law_430 : decode cL_law 430 = .ok (.aload_n 0, 1) := by decide +kernel
theorem dL_law_431 : decode cL_law 431 = .ok (.iload 5, 2) := by decide +kernel
theorem dL_law_433 : decode cL_law 433 = .ok (.iconst 1, 1) := by decide +kernel
theorem dL_law_434 : decode cL_law 434 = .ok (.iadd, 1) := by decide +kernel
theorem dL_law_435 : decode cL_law 435 = .ok (.iaload, 1) := by decide +kernel
theorem dL_law_436 : decode cL_law 436 = .ok (.aload_n 0, 1) := by decide +kernel
theorem dL_law_437 : decode cL_law 437 = .ok (.iload 5, 2) := by decide +kernel
theorem dL_law_439 : decode cL_law 439 = .ok (.iconst 2, 1) := by decide +kernel
theorem dL_law_440 : decode cL_law 440 = .ok (.iadd, 1) := by decide +kernel
theorem dL_law_441 : decode cL_law 441 = .ok (.iaload, 1) := by decide +kernel
theorem dL_law_442 : decode cL_law 442 = .ok (.aload_n 0, 1) := by decide +kernel
theorem dL_law_443 : decode cL_law 443 = .ok (.iload 5, 2) := by decide +kernel
theorem dL_law_445 : decode cL_law 445 = .ok (.iconst 3, 1) := by decide +kernel
theorem dL_law_446 : decode cL_law 446 = .ok (.iadd, 1) := by decide +kernel
theorem dL_law_447 : decode cL_law 447 = .ok (.iaload, 1) := by decide +kernel
theorem dL_law_448 : decode cL_law 448 = .ok (.aload_n 3, 1) := by decide +kernel
theorem dL_law_449 : decode cL_law 449 = .ok (.invokestatic 138, 3) := by decide +kernel
theorem dL_law_452 : decode cL_law 452 = .ok (.istore 6, 2) := by decide +kernel
theorem dL_law_454 : decode cL_law 454 = .ok (.aload_n 2, 1) := by decide +kernel
theorem dL_law_455 : decode cL_law 455 = .ok (.aload_n 0, 1) := by decide +kernel
theorem dL_law_456 : decode cL_law 456 = .ok (.iload 5, 2) := by decide +kernel
theorem dL_law_458 : decode cL_law 458 = .ok (.iconst 1, 1) := by decide +kernel
theorem dL_law_459 : decode cL_law 459 = .ok (.iadd, 1) := by decide +kernel
theorem dL_law_460 : decode cL_law 460 = .ok (.iaload, 1) := by decide +kernel
theorem dL_law_461 : decode cL_law 461 = .ok (.aload_n 0, 1) := by decide +kernel
theorem dL_law_462 : decode cL_law 462 = .ok (.iload 5, 2) := by decide +kernel
theorem dL_law_464 : decode cL_law 464 = .ok (.iconst 2, 1) := by decide +kernel
theorem dL_law_465 : decode cL_law 465 = .ok (.iadd, 1) := by decide +kernel
theorem dL_law_466 : decode cL_law 466 = .ok (.iaload, 1) := by decide +kernel
theorem dL_law_467 : decode cL_law 467 = .ok (.aload_n 0, 1) := by decide +kernel
theorem dL_law_468 : decode cL_law 468 = .ok (.iload 5, 2) := by decide +kernel
theorem dL_law_470 : decode cL_law 470 = .ok (.iconst 3, 1) := by decide +kernel
theorem dL_law_471 : decode cL_law 471 = .ok (.iadd, 1) := by decide +kernel
theorem dL_law_472 : decode cL_law 472 = .ok (.iaload, 1) := by decide +kernel
theorem dL_law_473 : decode cL_law 473 = .ok (.invokevirtual 140, 3) := by decide +kernel
theorem dL_law_476 : decode cL_law 476 = .ok (.istore 7, 2) := by decide +kernel
theorem dL_law_478 : decode cL_law 478 = .ok (.goto 547, 3) := by decide +kernel
theorem dL_law_481 : decode cL_law 481 = .ok (.aload_n 1, 1) := by decide +kernel
theorem dL_law_482 : decode cL_law 482 = .ok (.aload_n 0, 1) := by decide +kernel
theorem dL_law_483 : decode cL_law 483 = .ok (.iload 5, 2) := by decide +kernel
theorem dL_law_485 : decode cL_law 485 = .ok (.iconst 1, 1) := by decide +kernel
theorem dL_law_486 : decode cL_law 486 = .ok (.iadd, 1) := by decide +kernel
theorem dL_law_487 : decode cL_law 487 = .ok (.iaload, 1) := by decide +kernel
theorem dL_law_488 : decode cL_law 488 = .ok (.aload_n 0, 1) := by decide +kernel
theorem dL_law_489 : decode cL_law 489 = .ok (.iload 5, 2) := by decide +kernel
theorem dL_law_491 : decode cL_law 491 = .ok (.iconst 2, 1) := by decide +kernel
theorem dL_law_492 : decode cL_law 492 = .ok (.iadd, 1) := by decide +kernel
theorem dL_law_493 : decode cL_law 493 = .ok (.iaload, 1) := by decide +kernel
theorem dL_law_494 : decode cL_law 494 = .ok (.aload_n 0, 1) := by decide +kernel
theorem dL_law_495 : decode cL_law 495 = .ok (.iload 5, 2) := by decide +kernel
theorem dL_law_497 : decode cL_law 497 = .ok (.iconst 3, 1) := by decide +kernel
theorem dL_law_498 : decode cL_law 498 = .ok (.iadd, 1) := by decide +kernel
theorem dL_law_499 : decode cL_law 499 = .ok (.iaload, 1) := by decide +kernel
theorem dL_law_500 : decode cL_law 500 = .ok (.aload_n 3, 1) := by decide +kernel
theorem dL_law_501 : decode cL_law 501 = .ok (.invokestatic 141, 3) := by decide +kernel
theorem dL_law_504 : decode cL_law 504 = .ok (.istore 6, 2) := by decide +kernel
theorem dL_law_506 : decode cL_law 506 = .ok (.aload_n 2, 1) := by decide +kernel
theorem dL_law_507 : decode cL_law 507 = .ok (.aload_n 0, 1) := by decide +kernel
theorem dL_law_508 : decode cL_law 508 = .ok (.iload 5, 2) := by decide +kernel
theorem dL_law_510 : decode cL_law 510 = .ok (.iconst 1, 1) := by decide +kernel
theorem dL_law_511 : decode cL_law 511 = .ok (.iadd, 1) := by decide +kernel
theorem dL_law_512 : decode cL_law 512 = .ok (.iaload, 1) := by decide +kernel
theorem dL_law_513 : decode cL_law 513 = .ok (.aload_n 0, 1) := by decide +kernel
theorem dL_law_514 : decode cL_law 514 = .ok (.iload 5, 2) := by decide +kernel
theorem dL_law_516 : decode cL_law 516 = .ok (.iconst 2, 1) := by decide +kernel
theorem dL_law_517 : decode cL_law 517 = .ok (.iadd, 1) := by decide +kernel
theorem dL_law_518 : decode cL_law 518 = .ok (.iaload, 1) := by decide +kernel
theorem dL_law_519 : decode cL_law 519 = .ok (.aload_n 0, 1) := by decide +kernel
theorem dL_law_520 : decode cL_law 520 = .ok (.iload 5, 2) := by decide +kernel
theorem dL_law_522 : decode cL_law 522 = .ok (.iconst 3, 1) := by decide +kernel
theorem dL_law_523 : decode cL_law 523 = .ok (.iadd, 1) := by decide +kernel
theorem dL_law_524 : decode cL_law 524 = .ok (.iaload, 1) := by decide +kernel
theorem dL_law_525 : decode cL_law 525 = .ok (.invokevirtual 143, 3) := by decide +kernel
theorem dL_law_528 : decode cL_law 528 = .ok (.istore 7, 2) := by decide +kernel
theorem dL_law_530 : decode cL_law 530 = .ok (.goto 495, 3) := by decide +kernel
theorem dL_law_533 : decode cL_law 533 = .ok (.aload_n 1, 1) := by decide +kernel
theorem dL_law_534 : decode cL_law 534 = .ok (.aload_n 0, 1) := by decide +kernel
theorem dL_law_535 : decode cL_law 535 = .ok (.iload 5, 2) := by decide +kernel
theorem dL_law_537 : decode cL_law 537 = .ok (.iconst 1, 1) := by decide +kernel
theorem dL_law_538 : decode cL_law 538 = .ok (.iadd, 1) := by decide +kernel
theorem dL_law_539 : decode cL_law 539 = .ok (.iaload, 1) := by decide +kernel
theorem dL_law_540 : decode cL_law 540 = .ok (.aload_n 3, 1) := by decide +kernel
theorem dL_law_541 : decode cL_law 541 = .ok (.invokestatic 144, 3) := by decide +kernel
theorem dL_law_544 : decode cL_law 544 = .ok (.istore 6, 2) := by decide +kernel
theorem dL_law_546 : decode cL_law 546 = .ok (.aload_n 2, 1) := by decide +kernel
theorem dL_law_547 : decode cL_law 547 = .ok (.aload_n 0, 1) := by decide +kernel
theorem dL_law_548 : decode cL_law 548 = .ok (.iload 5, 2) := by decide +kernel
theorem dL_law_550 : decode cL_law 550 = .ok (.iconst 1, 1) := by decide +kernel
theorem dL_law_551 : decode cL_law 551 = .ok (.iadd, 1) := by decide +kernel
theorem dL_law_552 : decode cL_law 552 = .ok (.iaload, 1) := by decide +kernel
theorem dL_law_553 : decode cL_law 553 = .ok (.invokevirtual 146, 3) := by decide +kernel
theorem dL_law_556 : decode cL_law 556 = .ok (.istore 7, 2) := by decide +kernel
theorem dL_law_558 : decode cL_law 558 = .ok (.goto 467, 3) := by decide +kernel
theorem dL_law_561 : decode cL_law 561 = .ok (.aload_n 1, 1) := by decide +kernel
theorem dL_law_562 : decode cL_law 562 = .ok (.aload_n 0, 1) := by decide +kernel
theorem dL_law_563 : decode cL_law 563 = .ok (.iload 5, 2) := by decide +kernel
theorem dL_law_565 : decode cL_law 565 = .ok (.iconst 1, 1) := by decide +kernel
theorem dL_law_566 : decode cL_law 566 = .ok (.iadd, 1) := by decide +kernel
theorem dL_law_567 : decode cL_law 567 = .ok (.iaload, 1) := by decide +kernel
theorem dL_law_568 : decode cL_law 568 = .ok (.aload_n 3, 1) := by decide +kernel
theorem dL_law_569 : decode cL_law 569 = .ok (.invokestatic 147, 3) := by decide +kernel
theorem dL_law_572 : decode cL_law 572 = .ok (.istore 6, 2) := by decide +kernel
theorem dL_law_574 : decode cL_law 574 = .ok (.aload_n 2, 1) := by decide +kernel
theorem dL_law_575 : decode cL_law 575 = .ok (.aload_n 0, 1) := by decide +kernel
theorem dL_law_576 : decode cL_law 576 = .ok (.iload 5, 2) := by decide +kernel
theorem dL_law_578 : decode cL_law 578 = .ok (.iconst 1, 1) := by decide +kernel
theorem dL_law_579 : decode cL_law 579 = .ok (.iadd, 1) := by decide +kernel
theorem dL_law_580 : decode cL_law 580 = .ok (.iaload, 1) := by decide +kernel
theorem dL_law_581 : decode cL_law 581 = .ok (.invokevirtual 149, 3) := by decide +kernel
theorem dL_law_584 : decode cL_law 584 = .ok (.istore 7, 2) := by decide +kernel
theorem dL_law_586 : decode cL_law 586 = .ok (.goto 439, 3) := by decide +kernel
theorem dL_law_589 : decode cL_law 589 = .ok (.aload_n 1, 1) := by decide +kernel
theorem dL_law_590 : decode cL_law 590 = .ok (.aload_n 0, 1) := by decide +kernel
theorem dL_law_591 : decode cL_law 591 = .ok (.iload 5, 2) := by decide +kernel
theorem dL_law_593 : decode cL_law 593 = .ok (.iconst 1, 1) := by decide +kernel
theorem dL_law_594 : decode cL_law 594 = .ok (.iadd, 1) := by decide +kernel
theorem dL_law_595 : decode cL_law 595 = .ok (.iaload, 1) := by decide +kernel
theorem dL_law_596 : decode cL_law 596 = .ok (.aload_n 3, 1) := by decide +kernel
theorem dL_law_597 : decode cL_law 597 = .ok (.invokestatic 150, 3) := by decide +kernel
theorem dL_law_600 : decode cL_law 600 = .ok (.istore 6, 2) := by decide +kernel
theorem dL_law_602 : decode cL_law 602 = .ok (.aload_n 2, 1) := by decide +kernel
theorem dL_law_603 : decode cL_law 603 = .ok (.aload_n 0, 1) := by decide +kernel
theorem dL_law_604 : decode cL_law 604 = .ok (.iload 5, 2) := by decide +kernel
theorem dL_law_606 : decode cL_law 606 = .ok (.iconst 1, 1) := by decide +kernel
theorem dL_law_607 : decode cL_law 607 = .ok (.iadd, 1) := by decide +kernel
theorem dL_law_608 : decode cL_law 608 = .ok (.iaload, 1) := by decide +kernel
theorem dL_law_609 : decode cL_law 609 = .ok (.invokevirtual 152, 3) := by decide +kernel
theorem dL_law_612 : decode cL_law 612 = .ok (.istore 7, 2) := by decide +kernel
theorem dL_law_614 : decode cL_law 614 = .ok (.goto 411, 3) := by decide +kernel
theorem dL_law_617 : decode cL_law 617 = .ok (.aload_n 1, 1) := by decide +kernel
theorem dL_law_618 : decode cL_law 618 = .ok (.aload_n 0, 1) := by decide +kernel
theorem dL_law_619 : decode cL_law 619 = .ok (.iload 5, 2) := by decide +kernel
theorem dL_law_621 : decode cL_law 621 = .ok (.iconst 1, 1) := by decide +kernel
theorem dL_law_622 : decode cL_law 622 = .ok (.iadd, 1) := by decide +kernel
theorem dL_law_623 : decode cL_law 623 = .ok (.iaload, 1) := by decide +kernel
theorem dL_law_624 : decode cL_law 624 = .ok (.aload_n 3, 1) := by decide +kernel
theorem dL_law_625 : decode cL_law 625 = .ok (.invokestatic 153, 3) := by decide +kernel
theorem dL_law_628 : decode cL_law 628 = .ok (.istore 6, 2) := by decide +kernel
theorem dL_law_630 : decode cL_law 630 = .ok (.aload_n 2, 1) := by decide +kernel
theorem dL_law_631 : decode cL_law 631 = .ok (.aload_n 0, 1) := by decide +kernel
theorem dL_law_632 : decode cL_law 632 = .ok (.iload 5, 2) := by decide +kernel
theorem dL_law_634 : decode cL_law 634 = .ok (.iconst 1, 1) := by decide +kernel
theorem dL_law_635 : decode cL_law 635 = .ok (.iadd, 1) := by decide +kernel
theorem dL_law_636 : decode cL_law 636 = .ok (.iaload, 1) := by decide +kernel
theorem dL_law_637 : decode cL_law 637 = .ok (.invokevirtual 155, 3) := by decide +kernel
theorem dL_law_640 : decode cL_law 640 = .ok (.istore 7, 2) := by decide +kernel
theorem dL_law_642 : decode cL_law 642 = .ok (.goto 383, 3) := by decide +kernel
theorem dL_law_645 : decode cL_law 645 = .ok (.aload_n 1, 1) := by decide +kernel
theorem dL_law_646 : decode cL_law 646 = .ok (.aload_n 0, 1) := by decide +kernel
theorem dL_law_647 : decode cL_law 647 = .ok (.iload 5, 2) := by decide +kernel
theorem dL_law_649 : decode cL_law 649 = .ok (.iconst 1, 1) := by decide +kernel
theorem dL_law_650 : decode cL_law 650 = .ok (.iadd, 1) := by decide +kernel
theorem dL_law_651 : decode cL_law 651 = .ok (.iaload, 1) := by decide +kernel
theorem dL_law_652 : decode cL_law 652 = .ok (.aload_n 3, 1) := by decide +kernel
theorem dL_law_653 : decode cL_law 653 = .ok (.invokestatic 156, 3) := by decide +kernel
theorem dL_law_656 : decode cL_law 656 = .ok (.istore 6, 2) := by decide +kernel
theorem dL_law_658 : decode cL_law 658 = .ok (.aload_n 2, 1) := by decide +kernel
theorem dL_law_659 : decode cL_law 659 = .ok (.aload_n 0, 1) := by decide +kernel
theorem dL_law_660 : decode cL_law 660 = .ok (.iload 5, 2) := by decide +kernel
theorem dL_law_662 : decode cL_law 662 = .ok (.iconst 1, 1) := by decide +kernel
theorem dL_law_663 : decode cL_law 663 = .ok (.iadd, 1) := by decide +kernel
theorem dL_law_664 : decode cL_law 664 = .ok (.iaload, 1) := by decide +kernel
theorem dL_law_665 : decode cL_law 665 = .ok (.invokevirtual 158, 3) := by decide +kernel
theorem dL_law_668 : decode cL_law 668 = .ok (.istore 7, 2) := by decide +kernel
theorem dL_law_670 : decode cL_law 670 = .ok (.goto 355, 3) := by decide +kernel
theorem dL_law_673 : decode cL_law 673 = .ok (.aload_n 1, 1) := by decide +kernel
theorem dL_law_674 : decode cL_law 674 = .ok (.aload_n 0, 1) := by decide +kernel
theorem dL_law_675 : decode cL_law 675 = .ok (.iload 5, 2) := by decide +kernel
theorem dL_law_677 : decode cL_law 677 = .ok (.iconst 1, 1) := by decide +kernel
theorem dL_law_678 : decode cL_law 678 = .ok (.iadd, 1) := by decide +kernel
theorem dL_law_679 : decode cL_law 679 = .ok (.iaload, 1) := by decide +kernel
theorem dL_law_680 : decode cL_law 680 = .ok (.aload_n 3, 1) := by decide +kernel
theorem dL_law_681 : decode cL_law 681 = .ok (.invokestatic 159, 3) := by decide +kernel
theorem dL_law_684 : decode cL_law 684 = .ok (.istore 6, 2) := by decide +kernel
theorem dL_law_686 : decode cL_law 686 = .ok (.aload_n 2, 1) := by decide +kernel
theorem dL_law_687 : decode cL_law 687 = .ok (.aload_n 0, 1) := by decide +kernel
theorem dL_law_688 : decode cL_law 688 = .ok (.iload 5, 2) := by decide +kernel
theorem dL_law_690 : decode cL_law 690 = .ok (.iconst 1, 1) := by decide +kernel
theorem dL_law_691 : decode cL_law 691 = .ok (.iadd, 1) := by decide +kernel
theorem dL_law_692 : decode cL_law 692 = .ok (.iaload, 1) := by decide +kernel
theorem dL_law_693 : decode cL_law 693 = .ok (.invokevirtual 161, 3) := by decide +kernel
theorem dL_law_696 : decode cL_law 696 = .ok (.istore 7, 2) := by decide +kernel
theorem dL_law_698 : decode cL_law 698 = .ok (.goto 327, 3) := by decide +kernel
theorem dL_law_701 : decode cL_law 701 = .ok (.aload_n 1, 1) := by decide +kernel
theorem dL_law_702 : decode cL_law 702 = .ok (.aload_n 0, 1) := by decide +kernel
theorem dL_law_703 : decode cL_law 703 = .ok (.iload 5, 2) := by decide +kernel
theorem dL_law_705 : decode cL_law 705 = .ok (.iconst 1, 1) := by decide +kernel
theorem dL_law_706 : decode cL_law 706 = .ok (.iadd, 1) := by decide +kernel
theorem dL_law_707 : decode cL_law 707 = .ok (.iaload, 1) := by decide +kernel
theorem dL_law_708 : decode cL_law 708 = .ok (.aload_n 3, 1) := by decide +kernel
theorem dL_law_709 : decode cL_law 709 = .ok (.invokestatic 162, 3) := by decide +kernel
theorem dL_law_712 : decode cL_law 712 = .ok (.istore 6, 2) := by decide +kernel
theorem dL_law_714 : decode cL_law 714 = .ok (.aload_n 2, 1) := by decide +kernel
theorem dL_law_715 : decode cL_law 715 = .ok (.aload_n 0, 1) := by decide +kernel
theorem dL_law_716 : decode cL_law 716 = .ok (.iload 5, 2) := by decide +kernel
theorem dL_law_718 : decode cL_law 718 = .ok (.iconst 1, 1) := by decide +kernel
theorem dL_law_719 : decode cL_law 719 = .ok (.iadd, 1) := by decide +kernel
theorem dL_law_720 : decode cL_law 720 = .ok (.iaload, 1) := by decide +kernel
theorem dL_law_721 : decode cL_law 721 = .ok (.invokevirtual 164, 3) := by decide +kernel
theorem dL_law_724 : decode cL_law 724 = .ok (.istore 7, 2) := by decide +kernel
theorem dL_law_726 : decode cL_law 726 = .ok (.goto 299, 3) := by decide +kernel
theorem dL_law_729 : decode cL_law 729 = .ok (.aload_n 1, 1) := by decide +kernel
theorem dL_law_730 : decode cL_law 730 = .ok (.aload_n 0, 1) := by decide +kernel
theorem dL_law_731 : decode cL_law 731 = .ok (.iload 5, 2) := by decide +kernel
theorem dL_law_733 : decode cL_law 733 = .ok (.iconst 1, 1) := by decide +kernel
theorem dL_law_734 : decode cL_law 734 = .ok (.iadd, 1) := by decide +kernel
theorem dL_law_735 : decode cL_law 735 = .ok (.iaload, 1) := by decide +kernel
theorem dL_law_736 : decode cL_law 736 = .ok (.aload_n 0, 1) := by decide +kernel
theorem dL_law_737 : decode cL_law 737 = .ok (.iload 5, 2) := by decide +kernel
theorem dL_law_739 : decode cL_law 739 = .ok (.iconst 2, 1) := by decide +kernel
theorem dL_law_740 : decode cL_law 740 = .ok (.iadd, 1) := by decide +kernel
theorem dL_law_741 : decode cL_law 741 = .ok (.iaload, 1) := by decide +kernel
theorem dL_law_742 : decode cL_law 742 = .ok (.aload_n 3, 1) := by decide +kernel
theorem dL_law_743 : decode cL_law 743 = .ok (.invokestatic 165, 3) := by decide +kernel
theorem dL_law_746 : decode cL_law 746 = .ok (.istore 6, 2) := by decide +kernel
theorem dL_law_748 : decode cL_law 748 = .ok (.aload_n 2, 1) := by decide +kernel
theorem dL_law_749 : decode cL_law 749 = .ok (.aload_n 0, 1) := by decide +kernel
theorem dL_law_750 : decode cL_law 750 = .ok (.iload 5, 2) := by decide +kernel
theorem dL_law_752 : decode cL_law 752 = .ok (.iconst 1, 1) := by decide +kernel
theorem dL_law_753 : decode cL_law 753 = .ok (.iadd, 1) := by decide +kernel
theorem dL_law_754 : decode cL_law 754 = .ok (.iaload, 1) := by decide +kernel
theorem dL_law_755 : decode cL_law 755 = .ok (.aload_n 0, 1) := by decide +kernel
theorem dL_law_756 : decode cL_law 756 = .ok (.iload 5, 2) := by decide +kernel
theorem dL_law_758 : decode cL_law 758 = .ok (.iconst 2, 1) := by decide +kernel
theorem dL_law_759 : decode cL_law 759 = .ok (.iadd, 1) := by decide +kernel
theorem dL_law_760 : decode cL_law 760 = .ok (.iaload, 1) := by decide +kernel
theorem dL_law_761 : decode cL_law 761 = .ok (.invokevirtual 167, 3) := by decide +kernel
theorem dL_law_764 : decode cL_law 764 = .ok (.istore 7, 2) := by decide +kernel
theorem dL_law_766 : decode cL_law 766 = .ok (.goto 259, 3) := by decide +kernel
theorem dL_law_769 : decode cL_law 769 = .ok (.aload_n 1, 1) := by decide +kernel
theorem dL_law_770 : decode cL_law 770 = .ok (.aload_n 0, 1) := by decide +kernel
theorem dL_law_771 : decode cL_law 771 = .ok (.iload 5, 2) := by decide +kernel
theorem dL_law_773 : decode cL_law 773 = .ok (.iconst 1, 1) := by decide +kernel
theorem dL_law_774 : decode cL_law 774 = .ok (.iadd, 1) := by decide +kernel
theorem dL_law_775 : decode cL_law 775 = .ok (.iaload, 1) := by decide +kernel
theorem dL_law_776 : decode cL_law 776 = .ok (.aload_n 3, 1) := by decide +kernel
theorem dL_law_777 : decode cL_law 777 = .ok (.invokestatic 168, 3) := by decide +kernel
theorem dL_law_780 : decode cL_law 780 = .ok (.istore 6, 2) := by decide +kernel
theorem dL_law_782 : decode cL_law 782 = .ok (.aload_n 2, 1) := by decide +kernel
theorem dL_law_783 : decode cL_law 783 = .ok (.aload_n 0, 1) := by decide +kernel
theorem dL_law_784 : decode cL_law 784 = .ok (.iload 5, 2) := by decide +kernel
theorem dL_law_786 : decode cL_law 786 = .ok (.iconst 1, 1) := by decide +kernel
theorem dL_law_787 : decode cL_law 787 = .ok (.iadd, 1) := by decide +kernel
theorem dL_law_788 : decode cL_law 788 = .ok (.iaload, 1) := by decide +kernel
theorem dL_law_789 : decode cL_law 789 = .ok (.invokevirtual 170, 3) := by decide +kernel
theorem dL_law_792 : decode cL_law 792 = .ok (.istore 7, 2) := by decide +kernel
theorem dL_law_794 : decode cL_law 794 = .ok (.goto 231, 3) := by decide +kernel
theorem dL_law_797 : decode cL_law 797 = .ok (.aload_n 1, 1) := by decide +kernel
theorem dL_law_798 : decode cL_law 798 = .ok (.aload_n 0, 1) := by decide +kernel
theorem dL_law_799 : decode cL_law 799 = .ok (.iload 5, 2) := by decide +kernel
theorem dL_law_801 : decode cL_law 801 = .ok (.iconst 1, 1) := by decide +kernel
theorem dL_law_802 : decode cL_law 802 = .ok (.iadd, 1) := by decide +kernel
theorem dL_law_803 : decode cL_law 803 = .ok (.iaload, 1) := by decide +kernel
theorem dL_law_804 : decode cL_law 804 = .ok (.aload_n 3, 1) := by decide +kernel
theorem dL_law_805 : decode cL_law 805 = .ok (.invokestatic 171, 3) := by decide +kernel
theorem dL_law_808 : decode cL_law 808 = .ok (.istore 6, 2) := by decide +kernel
theorem dL_law_810 : decode cL_law 810 = .ok (.aload_n 2, 1) := by decide +kernel
theorem dL_law_811 : decode cL_law 811 = .ok (.aload_n 0, 1) := by decide +kernel
theorem dL_law_812 : decode cL_law 812 = .ok (.iload 5, 2) := by decide +kernel
theorem dL_law_814 : decode cL_law 814 = .ok (.iconst 1, 1) := by decide +kernel
theorem dL_law_815 : decode cL_law 815 = .ok (.iadd, 1) := by decide +kernel
theorem dL_law_816 : decode cL_law 816 = .ok (.iaload, 1) := by decide +kernel
theorem dL_law_817 : decode cL_law 817 = .ok (.invokevirtual 173, 3) := by decide +kernel
theorem dL_law_820 : decode cL_law 820 = .ok (.istore 7, 2) := by decide +kernel
theorem dL_law_822 : decode cL_law 822 = .ok (.goto 203, 3) := by decide +kernel
theorem dL_law_825 : decode cL_law 825 = .ok (.aload_n 1, 1) := by decide +kernel
theorem dL_law_826 : decode cL_law 826 = .ok (.invokevirtual 174, 3) := by decide +kernel
theorem dL_law_829 : decode cL_law 829 = .ok (.pop, 1) := by decide +kernel
theorem dL_law_830 : decode cL_law 830 = .ok (.aload_n 2, 1) := by decide +kernel
theorem dL_law_831 : decode cL_law 831 = .ok (.invokevirtual 177, 3) := by decide +kernel
theorem dL_law_834 : decode cL_law 834 = .ok (.pop, 1) := by decide +kernel
theorem dL_law_835 : decode cL_law 835 = .ok (.goto 190, 3) := by decide +kernel
theorem dL_law_838 : decode cL_law 838 = .ok (.aload_n 1, 1) := by decide +kernel
theorem dL_law_839 : decode cL_law 839 = .ok (.invokevirtual 178, 3) := by decide +kernel
theorem dL_law_842 : decode cL_law 842 = .ok (.pop, 1) := by decide +kernel
theorem dL_law_843 : decode cL_law 843 = .ok (.aload_n 2, 1) := by decide +kernel
theorem dL_law_844 : decode cL_law 844 = .ok (.invokevirtual 181, 3) := by decide +kernel
theorem dL_law_847 : decode cL_law 847 = .ok (.pop, 1) := by decide +kernel
theorem dL_law_848 : decode cL_law 848 = .ok (.goto 177, 3) := by decide +kernel
theorem dL_law_851 : decode cL_law 851 = .ok (.aload_n 1, 1) := by decide +kernel
theorem dL_law_852 : decode cL_law 852 = .ok (.aload_n 0, 1) := by decide +kernel
theorem dL_law_853 : decode cL_law 853 = .ok (.iload 5, 2) := by decide +kernel
theorem dL_law_855 : decode cL_law 855 = .ok (.iconst 1, 1) := by decide +kernel
theorem dL_law_856 : decode cL_law 856 = .ok (.iadd, 1) := by decide +kernel
theorem dL_law_857 : decode cL_law 857 = .ok (.iaload, 1) := by decide +kernel
theorem dL_law_858 : decode cL_law 858 = .ok (.aload_n 3, 1) := by decide +kernel
theorem dL_law_859 : decode cL_law 859 = .ok (.invokestatic 182, 3) := by decide +kernel
theorem dL_law_862 : decode cL_law 862 = .ok (.istore 6, 2) := by decide +kernel
theorem dL_law_864 : decode cL_law 864 = .ok (.aload_n 2, 1) := by decide +kernel
theorem dL_law_865 : decode cL_law 865 = .ok (.aload_n 0, 1) := by decide +kernel
theorem dL_law_866 : decode cL_law 866 = .ok (.iload 5, 2) := by decide +kernel
theorem dL_law_868 : decode cL_law 868 = .ok (.iconst 1, 1) := by decide +kernel
theorem dL_law_869 : decode cL_law 869 = .ok (.iadd, 1) := by decide +kernel
theorem dL_law_870 : decode cL_law 870 = .ok (.iaload, 1) := by decide +kernel
theorem dL_law_871 : decode cL_law 871 = .ok (.invokevirtual 184, 3) := by decide +kernel
theorem dL_law_874 : decode cL_law 874 = .ok (.istore 7, 2) := by decide +kernel
theorem dL_law_876 : decode cL_law 876 = .ok (.goto 149, 3) := by decide +kernel
theorem dL_law_879 : decode cL_law 879 = .ok (.aload_n 1, 1) := by decide +kernel
theorem dL_law_880 : decode cL_law 880 = .ok (.aload_n 0, 1) := by decide +kernel
theorem dL_law_881 : decode cL_law 881 = .ok (.iload 5, 2) := by decide +kernel
theorem dL_law_883 : decode cL_law 883 = .ok (.iconst 1, 1) := by decide +kernel
theorem dL_law_884 : decode cL_law 884 = .ok (.iadd, 1) := by decide +kernel
theorem dL_law_885 : decode cL_law 885 = .ok (.iaload, 1) := by decide +kernel
theorem dL_law_886 : decode cL_law 886 = .ok (.ifCond .eq 7, 3) := by decide +kernel
theorem dL_law_889 : decode cL_law 889 = .ok (.iconst 1, 1) := by decide +kernel
theorem dL_law_890 : decode cL_law 890 = .ok (.goto 4, 3) := by decide +kernel
theorem dL_law_893 : decode cL_law 893 = .ok (.iconst 0, 1) := by decide +kernel
theorem dL_law_894 : decode cL_law 894 = .ok (.aload_n 3, 1) := by decide +kernel
theorem dL_law_895 : decode cL_law 895 = .ok (.invokestatic 185, 3) := by decide +kernel
theorem dL_law_898 : decode cL_law 898 = .ok (.istore 6, 2) := by decide +kernel
theorem dL_law_900 : decode cL_law 900 = .ok (.aload_n 2, 1) := by decide +kernel
theorem dL_law_901 : decode cL_law 901 = .ok (.aload_n 0, 1) := by decide +kernel
theorem dL_law_902 : decode cL_law 902 = .ok (.iload 5, 2) := by decide +kernel
theorem dL_law_904 : decode cL_law 904 = .ok (.iconst 1, 1) := by decide +kernel
theorem dL_law_905 : decode cL_law 905 = .ok (.iadd, 1) := by decide +kernel
theorem dL_law_906 : decode cL_law 906 = .ok (.iaload, 1) := by decide +kernel
theorem dL_law_907 : decode cL_law 907 = .ok (.ifCond .eq 7, 3) := by decide +kernel
theorem dL_law_910 : decode cL_law 910 = .ok (.iconst 1, 1) := by decide +kernel
theorem dL_law_911 : decode cL_law 911 = .ok (.goto 4, 3) := by decide +kernel
theorem dL_law_914 : decode cL_law 914 = .ok (.iconst 0, 1) := by decide +kernel
theorem dL_law_915 : decode cL_law 915 = .ok (.invokevirtual 188, 3) := by decide +kernel
theorem dL_law_918 : decode cL_law 918 = .ok (.istore 7, 2) := by decide +kernel
theorem dL_law_920 : decode cL_law 920 = .ok (.goto 105, 3) := by decide +kernel
theorem dL_law_923 : decode cL_law 923 = .ok (.aload_n 1, 1) := by decide +kernel
theorem dL_law_924 : decode cL_law 924 = .ok (.aload_n 0, 1) := by decide +kernel
theorem dL_law_925 : decode cL_law 925 = .ok (.iload 5, 2) := by decide +kernel
theorem dL_law_927 : decode cL_law 927 = .ok (.iconst 1, 1) := by decide +kernel
theorem dL_law_928 : decode cL_law 928 = .ok (.iadd, 1) := by decide +kernel
theorem dL_law_929 : decode cL_law 929 = .ok (.iaload, 1) := by decide +kernel
theorem dL_law_930 : decode cL_law 930 = .ok (.aload_n 3, 1) := by decide +kernel
theorem dL_law_931 : decode cL_law 931 = .ok (.invokestatic 189, 3) := by decide +kernel
theorem dL_law_934 : decode cL_law 934 = .ok (.istore 6, 2) := by decide +kernel
theorem dL_law_936 : decode cL_law 936 = .ok (.aload_n 2, 1) := by decide +kernel
theorem dL_law_937 : decode cL_law 937 = .ok (.aload_n 0, 1) := by decide +kernel
theorem dL_law_938 : decode cL_law 938 = .ok (.iload 5, 2) := by decide +kernel
theorem dL_law_940 : decode cL_law 940 = .ok (.iconst 1, 1) := by decide +kernel
theorem dL_law_941 : decode cL_law 941 = .ok (.iadd, 1) := by decide +kernel
theorem dL_law_942 : decode cL_law 942 = .ok (.iaload, 1) := by decide +kernel
theorem dL_law_943 : decode cL_law 943 = .ok (.invokevirtual 191, 3) := by decide +kernel
theorem dL_law_946 : decode cL_law 946 = .ok (.istore 7, 2) := by decide +kernel
theorem dL_law_948 : decode cL_law 948 = .ok (.goto 77, 3) := by decide +kernel
theorem dL_law_951 : decode cL_law 951 = .ok (.aload_n 1, 1) := by decide +kernel
theorem dL_law_952 : decode cL_law 952 = .ok (.aload_n 0, 1) := by decide +kernel
theorem dL_law_953 : decode cL_law 953 = .ok (.iload 5, 2) := by decide +kernel
theorem dL_law_955 : decode cL_law 955 = .ok (.iconst 1, 1) := by decide +kernel
theorem dL_law_956 : decode cL_law 956 = .ok (.iadd, 1) := by decide +kernel
theorem dL_law_957 : decode cL_law 957 = .ok (.iaload, 1) := by decide +kernel
theorem dL_law_958 : decode cL_law 958 = .ok (.aload_n 3, 1) := by decide +kernel
theorem dL_law_959 : decode cL_law 959 = .ok (.invokestatic 192, 3) := by decide +kernel
theorem dL_law_962 : decode cL_law 962 = .ok (.istore 6, 2) := by decide +kernel
theorem dL_law_964 : decode cL_law 964 = .ok (.aload_n 2, 1) := by decide +kernel
theorem dL_law_965 : decode cL_law 965 = .ok (.aload_n 0, 1) := by decide +kernel
theorem dL_law_966 : decode cL_law 966 = .ok (.iload 5, 2) := by decide +kernel
theorem dL_law_968 : decode cL_law 968 = .ok (.iconst 1, 1) := by decide +kernel
theorem dL_law_969 : decode cL_law 969 = .ok (.iadd, 1) := by decide +kernel
theorem dL_law_970 : decode cL_law 970 = .ok (.iaload, 1) := by decide +kernel
theorem dL_law_971 : decode cL_law 971 = .ok (.invokevirtual 194, 3) := by decide +kernel
theorem dL_law_974 : decode cL_law 974 = .ok (.istore 7, 2) := by decide +kernel
theorem dL_law_976 : decode cL_law 976 = .ok (.goto 49, 3) := by decide +kernel
theorem dL_law_979 : decode cL_law 979 = .ok (.aload_n 1, 1) := by decide +kernel
theorem dL_law_980 : decode cL_law 980 = .ok (.aload 4, 2) := by decide +kernel
theorem dL_law_982 : decode cL_law 982 = .ok (.invokestatic 195, 3) := by decide +kernel
theorem dL_law_985 : decode cL_law 985 = .ok (.istore 6, 2) := by decide +kernel
theorem dL_law_987 : decode cL_law 987 = .ok (.aload_n 2, 1) := by decide +kernel
theorem dL_law_988 : decode cL_law 988 = .ok (.invokevirtual 198, 3) := by decide +kernel
theorem dL_law_991 : decode cL_law 991 = .ok (.fstore 7, 2) := by decide +kernel
theorem dL_law_993 : decode cL_law 993 = .ok (.goto 32, 3) := by decide +kernel
theorem dL_law_996 : decode cL_law 996 = .ok (.aload_n 1, 1) := by decide +kernel
theorem dL_law_997 : decode cL_law 997 = .ok (.aload_n 0, 1) := by decide +kernel
theorem dL_law_998 : decode cL_law 998 = .ok (.iload 5, 2) := by decide +kernel
theorem dL_law_1000 : decode cL_law 1000 = .ok (.iconst 1, 1) := by decide +kernel
theorem dL_law_1001 : decode cL_law 1001 = .ok (.iadd, 1) := by decide +kernel
theorem dL_law_1002 : decode cL_law 1002 = .ok (.iaload, 1) := by decide +kernel
theorem dL_law_1003 : decode cL_law 1003 = .ok (.aload 4, 2) := by decide +kernel
theorem dL_law_1005 : decode cL_law 1005 = .ok (.invokestatic 199, 3) := by decide +kernel
theorem dL_law_1008 : decode cL_law 1008 = .ok (.istore 6, 2) := by decide +kernel
theorem dL_law_1010 : decode cL_law 1010 = .ok (.aload_n 2, 1) := by decide +kernel
theorem dL_law_1011 : decode cL_law 1011 = .ok (.aload_n 0, 1) := by decide +kernel
theorem dL_law_1012 : decode cL_law 1012 = .ok (.iload 5, 2) := by decide +kernel
theorem dL_law_1014 : decode cL_law 1014 = .ok (.iconst 1, 1) := by decide +kernel
theorem dL_law_1015 : decode cL_law 1015 = .ok (.iadd, 1) := by decide +kernel
theorem dL_law_1016 : decode cL_law 1016 = .ok (.iaload, 1) := by decide +kernel
theorem dL_law_1017 : decode cL_law 1017 = .ok (.invokevirtual 202, 3) := by decide +kernel
theorem dL_law_1020 : decode cL_law 1020 = .ok (.dstore 7, 2) := by decide +kernel
theorem dL_law_1022 : decode cL_law 1022 = .ok (.goto 3, 3) := by decide +kernel
theorem dL_law_1025 : decode cL_law 1025 = .ok (.iinc 5 4, 3) := by decide +kernel
theorem dL_law_1028 : decode cL_law 1028 = .ok (.goto (-1000), 3) := by decide +kernel
theorem dL_law_1031 : decode cL_law 1031 = .ok (.iconst 1, 1) := by decide +kernel
theorem dL_law_1032 : decode cL_law 1032 = .ok (.ireturn, 1) := by decide +kernel
end
section
def mt_T : List Cond := lw_tbl.filter goodWord
theorem mt_ms {w : Cond} (i : Nat) (h : (k2_sels lw_privs)[i]? = some w) (hg : goodWord w = true) : w ∈ mt_T := List.mem_filter.mpr ⟨List.mem_append_left _ (List.mem_of_getElem? h), hg⟩
def mt_bk : Cond → Bool := fun w => match w with | .castable .. => true | .declares _ => true | .fieldLinkNest .. => true | .methodLinkNest .. => true | _ => false
def mt_bw : List Cond := tables_1.filter mt_bk
theorem mt_l1 {w : Cond} (i : Nat) (h9 : tables_1_1[i]? = some w) : w ∈ tables_1 := by have h := List.mem_of_getElem? h9; exact (show w ∈ tables_1 from List.mem_append_left _ h)
theorem mt_m1 {w : Cond} (i : Nat) (h : tables_1_1[i]? = some w) (hg : goodWord w = true) : w ∈ mt_T := List.mem_filter.mpr ⟨List.mem_append_right _ (mt_l1 i h), hg⟩
theorem mt_b1 {w : Cond} (i : Nat) (h : tables_1_1[i]? = some w) (hg : mt_bk w = true) : w ∈ mt_bw := List.mem_filter.mpr ⟨mt_l1 i h, hg⟩
theorem mt_l2 {w : Cond} (i : Nat) (h9 : tables_1_2[i]? = some w) : w ∈ tables_1 := by have h := List.mem_of_getElem? h9; exact (show w ∈ tables_1 from List.mem_append_right _ (List.mem_append_left _ h))
theorem mt_m2 {w : Cond} (i : Nat) (h : tables_1_2[i]? = some w) (hg : goodWord w = true) : w ∈ mt_T := List.mem_filter.mpr ⟨List.mem_append_right _ (mt_l2 i h), hg⟩
theorem mt_b2 {w : Cond} (i : Nat) (h : tables_1_2[i]? = some w) (hg : mt_bk w = true) : w ∈ mt_bw := List.mem_filter.mpr ⟨mt_l2 i h, hg⟩
theorem mt_l3 {w : Cond} (i : Nat) (h9 : tables_1_3[i]? = some w) : w ∈ tables_1 := by have h := List.mem_of_getElem? h9; exact (show w ∈ tables_1 from List.mem_append_right _ (List.mem_append_right _ (List.mem_append_left _ h)))
theorem mt_m3 {w : Cond} (i : Nat) (h : tables_1_3[i]? = some w) (hg : goodWord w = true) : w ∈ mt_T := List.mem_filter.mpr ⟨List.mem_append_right _ (mt_l3 i h), hg⟩
theorem mt_b3 {w : Cond} (i : Nat) (h : tables_1_3[i]? = some w) (hg : mt_bk w = true) : w ∈ mt_bw := List.mem_filter.mpr ⟨mt_l3 i h, hg⟩
theorem mt_l4 {w : Cond} (i : Nat) (h9 : tables_1_4[i]? = some w) : w ∈ tables_1 := by have h := List.mem_of_getElem? h9; exact (show w ∈ tables_1 from List.mem_append_right _ (List.mem_append_right _ (List.mem_append_right _ (List.mem_append_left _ h))))
theorem mt_m4 {w : Cond} (i : Nat) (h : tables_1_4[i]? = some w) (hg : goodWord w = true) : w ∈ mt_T := List.mem_filter.mpr ⟨List.mem_append_right _ (mt_l4 i h), hg⟩
theorem mt_b4 {w : Cond} (i : Nat) (h : tables_1_4[i]? = some w) (hg : mt_bk w = true) : w ∈ mt_bw := List.mem_filter.mpr ⟨mt_l4 i h, hg⟩
theorem mt_l5 {w : Cond} (i : Nat) (h9 : tables_1_5[i]? = some w) : w ∈ tables_1 := by have h := List.mem_of_getElem? h9; exact (show w ∈ tables_1 from List.mem_append_right _ (List.mem_append_right _ (List.mem_append_right _ (List.mem_append_right _ h))))
theorem mt_m5 {w : Cond} (i : Nat) (h : tables_1_5[i]? = some w) (hg : goodWord w = true) : w ∈ mt_T := List.mem_filter.mpr ⟨List.mem_append_right _ (mt_l5 i h), hg⟩
theorem mt_b5 {w : Cond} (i : Nat) (h : tables_1_5[i]? = some w) (hg : mt_bk w = true) : w ∈ mt_bw := List.mem_filter.mpr ⟨mt_l5 i h, hg⟩
def mt_strs : List (String × Nat × String) := [("MountTable", 46, "there are as many layers as can be"), ("MountTable", 58, "the point is no path, or both layers are the same"), ("MountTable", 67, "there is no such layer"), ("MountTable", 79, "a layer is in a mount that is there"), ("MountTable", 85, "as many mounts were made as can be"), ("MountTable", 264, "there is no such mount"), ("MountTable", 260, "the number is no path"), ("MountTable", 118, "no mount serves the path"), ("MountTable", 262, "the owner is out of range"), ("MountTable", 125, "the size is out of range"), ("MountTable", 298, "no mount serves the path, or its rest is empty"), ("MountTable", 143, "the owner would use more than the quota"), ("MountTable", 181, "the path shows nothing"), ("MountTable", 294, "the mount of a link is not crossing"), ("MountTable", 296, "the path leads over too many links"), ("MountTable", 189, "the path ends at one that shows nothing"), ("MountTable", 205, "the quota is out of range"), ("MountTable", 228, "there are as many backups as can be"), ("MountTable", 266, "there is no such backup"), ("MountTable", 252, "all files together have no bytes"), ("MountTable", 255, "the layer has no files")]
def mt_nc : List (String × String) := [("MountTable", "java/lang/ArithmeticException"), ("MountTable", "java/lang/IllegalArgumentException"), ("MountTable", "java/lang/IllegalStateException"), ("MountTable", "java/lang/IndexOutOfBoundsException"), ("MountTable", "java/lang/UnsupportedOperationException"), ("MountTable", "java/util/NoSuchElementException"), ("MountTable$Backup", "java/lang/ArithmeticException"), ("MountTable$Backup", "java/lang/IllegalArgumentException"), ("MountTable$Backup", "java/lang/IllegalStateException"), ("MountTable$Backup", "java/lang/IndexOutOfBoundsException"), ("MountTable$Backup", "java/lang/UnsupportedOperationException"), ("MountTable$Backup", "java/util/NoSuchElementException"), ("MountTable$Layer", "java/lang/ArithmeticException"), ("MountTable$Layer", "java/lang/IllegalArgumentException"), ("MountTable$Layer", "java/lang/IllegalStateException"), ("MountTable$Layer", "java/lang/IndexOutOfBoundsException"), ("MountTable$Layer", "java/lang/UnsupportedOperationException"), ("MountTable$Layer", "java/util/NoSuchElementException"), ("MountTable$Mount", "java/lang/ArithmeticException"), ("MountTable$Mount", "java/lang/IllegalArgumentException"), ("MountTable$Mount", "java/lang/IllegalStateException"), ("MountTable$Mount", "java/lang/IndexOutOfBoundsException"), ("MountTable$Mount", "java/lang/UnsupportedOperationException"), ("MountTable$Mount", "java/util/NoSuchElementException"), ("MountTableModel", "java/lang/ArithmeticException"), ("MountTableModel", "java/lang/IllegalArgumentException"), ("MountTableModel", "java/lang/IllegalStateException"), ("MountTableModel", "java/lang/IndexOutOfBoundsException"), ("MountTableModel", "java/lang/UnsupportedOperationException"), ("MountTableModel", "java/util/NoSuchElementException"), ("java/lang/ArithmeticException", "java/lang/IllegalArgumentException"), ("java/lang/ArithmeticException", "java/lang/IllegalStateException"), ("java/lang/ArithmeticException", "java/lang/IndexOutOfBoundsException"), ("java/lang/ArithmeticException", "java/lang/UnsupportedOperationException"), ("java/lang/ArithmeticException", "java/util/NoSuchElementException"), ("java/lang/ArrayIndexOutOfBoundsException", "java/lang/ArithmeticException"), ("java/lang/ArrayIndexOutOfBoundsException", "java/lang/IllegalArgumentException"), ("java/lang/ArrayIndexOutOfBoundsException", "java/lang/IllegalStateException"), ("java/lang/ArrayIndexOutOfBoundsException", "java/lang/UnsupportedOperationException"), ("java/lang/ArrayIndexOutOfBoundsException", "java/util/NoSuchElementException"), ("java/lang/IllegalArgumentException", "java/lang/ArithmeticException"), ("java/lang/IllegalArgumentException", "java/lang/IllegalStateException"), ("java/lang/IllegalArgumentException", "java/lang/IndexOutOfBoundsException"), ("java/lang/IllegalArgumentException", "java/lang/UnsupportedOperationException"), ("java/lang/IllegalArgumentException", "java/util/NoSuchElementException"), ("java/lang/IllegalStateException", "java/lang/ArithmeticException"), ("java/lang/IllegalStateException", "java/lang/IllegalArgumentException"), ("java/lang/IllegalStateException", "java/lang/IndexOutOfBoundsException"), ("java/lang/IllegalStateException", "java/lang/UnsupportedOperationException"), ("java/lang/IllegalStateException", "java/util/NoSuchElementException"), ("java/lang/IndexOutOfBoundsException", "java/lang/ArithmeticException"), ("java/lang/IndexOutOfBoundsException", "java/lang/IllegalArgumentException"), ("java/lang/IndexOutOfBoundsException", "java/lang/IllegalStateException"), ("java/lang/IndexOutOfBoundsException", "java/lang/UnsupportedOperationException"), ("java/lang/IndexOutOfBoundsException", "java/util/NoSuchElementException"), ("java/lang/UnsupportedOperationException", "java/lang/ArithmeticException"), ("java/lang/UnsupportedOperationException", "java/lang/IllegalArgumentException"), ("java/lang/UnsupportedOperationException", "java/lang/IllegalStateException"), ("java/lang/UnsupportedOperationException", "java/lang/IndexOutOfBoundsException"), ("java/lang/UnsupportedOperationException", "java/util/NoSuchElementException"), ("java/util/NoSuchElementException", "java/lang/ArithmeticException"), ("java/util/NoSuchElementException", "java/lang/IllegalArgumentException"), ("java/util/NoSuchElementException", "java/lang/IllegalStateException"), ("java/util/NoSuchElementException", "java/lang/IndexOutOfBoundsException"), ("java/util/NoSuchElementException", "java/lang/UnsupportedOperationException")]
def mt_ao : List String := ["MountTable$Layer", "MountTable$Mount", "MountTable$Backup"]
theorem mw_in_L : (Cond.initialized "MountTableLaw") ∈ mt_T := mt_m1 0 rfl rfl
theorem mw_in_X3 : (Cond.initialized "MountTable") ∈ mt_T := mt_m1 1 rfl rfl
theorem mw_in_X4 : (Cond.initialized "MountTableModel") ∈ mt_T := mt_m1 2 rfl rfl
theorem mw_in_java_lang_Throwable : (Cond.initialized "java/lang/Throwable") ∈ mt_T := mt_m1 3 rfl rfl
theorem mw_in_java_lang_Exception : (Cond.initialized "java/lang/Exception") ∈ mt_T := mt_m1 4 rfl rfl
theorem mw_in_java_lang_RuntimeException : (Cond.initialized "java/lang/RuntimeException") ∈ mt_T := mt_m1 5 rfl rfl
theorem mw_in_java_lang_IllegalStateException : (Cond.initialized "java/lang/IllegalStateException") ∈ mt_T := mt_m1 6 rfl rfl
theorem mw_in_X1 : (Cond.initialized "MountTable$Layer") ∈ mt_T := mt_m1 7 rfl rfl
theorem mw_in_java_lang_IndexOutOfBoundsException : (Cond.initialized "java/lang/IndexOutOfBoundsException") ∈ mt_T := mt_m1 8 rfl rfl
theorem mw_in_Jx00060 : (Cond.initialized "java/lang/ArrayIndexOutOfBoundsException") ∈ mt_T := mt_m1 9 rfl rfl
theorem mw_in_J0 : (Cond.initialized "java/lang/String") ∈ mt_T := mt_m1 10 rfl rfl
theorem mw_in_java_lang_IllegalArgumentException : (Cond.initialized "java/lang/IllegalArgumentException") ∈ mt_T := mt_m1 11 rfl rfl
theorem mw_in_java_lang_UnsupportedOperationException : (Cond.initialized "java/lang/UnsupportedOperationException") ∈ mt_T := mt_m1 12 rfl rfl
theorem mw_in_X2 : (Cond.initialized "MountTable$Mount") ∈ mt_T := mt_m1 13 rfl rfl
theorem mw_in_java_util_NoSuchElementException : (Cond.initialized "java/util/NoSuchElementException") ∈ mt_T := mt_m1 14 rfl rfl
theorem mw_in_X0 : (Cond.initialized "MountTable$Backup") ∈ mt_T := mt_m1 15 rfl rfl
theorem mw_in_java_lang_ArithmeticException : (Cond.initialized "java/lang/ArithmeticException") ∈ mt_T := mt_m1 16 rfl rfl
theorem mw_cl_L_8 : (Cond.classLink "MountTableLaw" (8 : Nat) "MountTable") ∈ mt_T := mt_m1 17 rfl rfl
theorem mw_ii_X3 : (Cond.instantiable "MountTable" (11 : Nat)) ∈ mt_T := mt_m1 18 rfl rfl
theorem mw_ml_L_102 : (Cond.methodLink "MountTableLaw" (102 : Nat) ({ cls := "MountTable", name := "<init>", desc := "()V" } : MethodName)) ∈ mt_T := mt_m1 19 rfl rfl
theorem mw_im_X3_init : (Cond.instanceMethod ({ cls := "MountTable", name := "<init>", desc := "()V" } : MethodName)) ∈ mt_T := mt_m1 20 rfl rfl
theorem mw_co_X3_init : (Cond.code ({ cls := "MountTable", name := "<init>", desc := "()V" } : MethodName) prog_1_method_1_code (2 : Nat) (Option.none : Option ClassFile.FieldType)) ∈ mt_T := mt_m1 21 rfl rfl
theorem mw_ml_X3_1 : (Cond.methodLink "MountTable" (1 : Nat) ({ cls := "java/lang/Object", name := "<init>", desc := "()V" } : MethodName)) ∈ mt_T := mt_m1 22 rfl rfl
theorem mw_im_java_lang_Object__init___V : (Cond.instanceMethod ({ cls := "java/lang/Object", name := "<init>", desc := "()V" } : MethodName)) ∈ mt_T := mt_m1 23 rfl rfl
theorem mw_co_java_lang_Object__init___V : (Cond.code ({ cls := "java/lang/Object", name := "<init>", desc := "()V" } : MethodName) object_method_1_code (1 : Nat) (Option.none : Option ClassFile.FieldType)) ∈ mt_T := mt_m1 24 rfl rfl
theorem mw_cl_X3_9 : (Cond.classLink "MountTable" (9 : Nat) "MountTable$Layer") ∈ mt_T := mt_m1 25 rfl rfl
theorem mw_cl_X3_15 : (Cond.classLink "MountTable" (15 : Nat) "MountTable$Mount") ∈ mt_T := mt_m1 27 rfl rfl
theorem mw_cl_X3_21 : (Cond.classLink "MountTable" (21 : Nat) "MountTable$Backup") ∈ mt_T := mt_m1 29 rfl rfl
theorem mw_fl_X3_11 : (Cond.fieldLink "MountTable" (11 : Nat) "MountTable" "layers" "[LMountTable$Layer;") ∈ mt_T := mt_m1 31 rfl rfl
theorem mw_fl_X3_17 : (Cond.fieldLink "MountTable" (17 : Nat) "MountTable" "mounts" "[LMountTable$Mount;") ∈ mt_T := mt_m1 32 rfl rfl
theorem mw_fl_X3_23 : (Cond.fieldLink "MountTable" (23 : Nat) "MountTable" "backups" "[LMountTable$Backup;") ∈ mt_T := mt_m1 33 rfl rfl
theorem mw_fl_X3_27 : (Cond.fieldLink "MountTable" (27 : Nat) "MountTable" "used" "[I") ∈ mt_T := mt_m1 34 rfl rfl
theorem mw_fl_X3_31 : (Cond.fieldLink "MountTable" (31 : Nat) "MountTable" "quotas" "[I") ∈ mt_T := mt_m1 35 rfl rfl
theorem mw_fl_X3_34 : (Cond.fieldLink "MountTable" (34 : Nat) "MountTable" "servers" "[I") ∈ mt_T := mt_m1 36 rfl rfl
theorem mw_fl_X3_37 : (Cond.fieldLink "MountTable" (37 : Nat) "MountTable" "rests" "[I") ∈ mt_T := mt_m1 37 rfl rfl
theorem mw_fl_X3_40 : (Cond.fieldLink "MountTable" (40 : Nat) "MountTable" "layerCount" "I") ∈ mt_T := mt_m1 38 rfl rfl
theorem mw_fl_X3_82 : (Cond.fieldLink "MountTable" (82 : Nat) "MountTable" "mountCount" "I") ∈ mt_T := mt_m1 39 rfl rfl
theorem mw_fl_X3_225 : (Cond.fieldLink "MountTable" (225 : Nat) "MountTable" "backupCount" "I") ∈ mt_T := mt_m1 40 rfl rfl
theorem mw_fl_X3_219 : (Cond.fieldLink "MountTable" (219 : Nat) "MountTable" "copyCount" "I") ∈ mt_T := mt_m1 41 rfl rfl
theorem mw_la_X3_X3_layers : (Cond.laysFinal "MountTable" "MountTable" "layers" "[LMountTable$Layer;") ∈ mt_T := mt_m1 42 rfl rfl
theorem mw_la_X3_X3_mounts : (Cond.laysFinal "MountTable" "MountTable" "mounts" "[LMountTable$Mount;") ∈ mt_T := mt_m1 44 rfl rfl
theorem mw_la_X3_X3_backups : (Cond.laysFinal "MountTable" "MountTable" "backups" "[LMountTable$Backup;") ∈ mt_T := mt_m1 46 rfl rfl
theorem mw_la_X3_X3_used : (Cond.laysFinal "MountTable" "MountTable" "used" "[I") ∈ mt_T := mt_m1 48 rfl rfl
theorem mw_la_X3_X3_quotas : (Cond.laysFinal "MountTable" "MountTable" "quotas" "[I") ∈ mt_T := mt_m1 50 rfl rfl
theorem mw_la_X3_X3_servers : (Cond.laysFinal "MountTable" "MountTable" "servers" "[I") ∈ mt_T := mt_m1 52 rfl rfl
theorem mw_la_X3_X3_rests : (Cond.laysFinal "MountTable" "MountTable" "rests" "[I") ∈ mt_T := mt_m1 54 rfl rfl
theorem mw_la_X3_X3_layerCount : (Cond.lays "MountTable" "MountTable" "layerCount" "I") ∈ mt_T := mt_m1 56 rfl rfl
theorem mw_la_X3_X3_mountCount : (Cond.lays "MountTable" "MountTable" "mountCount" "I") ∈ mt_T := mt_m1 58 rfl rfl
theorem mw_la_X3_X3_backupCount : (Cond.lays "MountTable" "MountTable" "backupCount" "I") ∈ mt_T := mt_m1 60 rfl rfl
theorem mw_la_X3_X3_copyCount : (Cond.lays "MountTable" "MountTable" "copyCount" "I") ∈ mt_T := mt_m1 62 rfl rfl
theorem mw_ac_int : (Cond.arrayClass ClassFile.FieldType.int) ∈ mt_T := mt_m1 65 rfl rfl
theorem mw_ml_L_134 : (Cond.methodLink "MountTableLaw" (134 : Nat) ({ cls := "MountTable", name := "covered", desc := "()I" } : MethodName)) ∈ mt_T := mt_m1 66 rfl rfl
theorem mw_im_X3_covered : (Cond.instanceMethod ({ cls := "MountTable", name := "covered", desc := "()I" } : MethodName)) ∈ mt_T := mt_m1 67 rfl rfl
theorem mw_se_X3_X3_covered : (Cond.selects "MountTable" ({ cls := "MountTable", name := "covered", desc := "()I" } : MethodName) ({ cls := "MountTable", name := "covered", desc := "()I" } : MethodName)) ∈ mt_T := mt_m1 68 rfl rfl
theorem mw_co_X3_covered : (Cond.code ({ cls := "MountTable", name := "covered", desc := "()I" } : MethodName) prog_1_method_8_code (4 : Nat) (Option.some ClassFile.FieldType.int)) ∈ mt_T := mt_m1 69 rfl rfl
theorem mw_ml_X3_101 : (Cond.methodLink "MountTable" (101 : Nat) ({ cls := "MountTable", name := "mountThere", desc := "(I)LMountTable$Mount;" } : MethodName)) ∈ mt_T := mt_m1 70 rfl rfl
theorem mw_im_X3_mountThere : (Cond.instanceMethod ({ cls := "MountTable", name := "mountThere", desc := "(I)LMountTable$Mount;" } : MethodName)) ∈ mt_T := mt_m1 72 rfl rfl
theorem mw_co_X3_mountThere : (Cond.code ({ cls := "MountTable", name := "mountThere", desc := "(I)LMountTable$Mount;" } : MethodName) prog_1_method_41_code (3 : Nat) (Option.some (ClassFile.FieldType.object "MountTable$Mount"))) ∈ mt_T := mt_m1 73 rfl rfl
theorem mw_ml_X3_52 : (Cond.methodLink "MountTable" (52 : Nat) ({ cls := "MountTable", name := "placeOf", desc := "(I)I" } : MethodName)) ∈ mt_T := mt_m1 74 rfl rfl
theorem mw_st_X3_placeOf : (Cond.static ({ cls := "MountTable", name := "placeOf", desc := "(I)I" } : MethodName)) ∈ mt_T := mt_m1 75 rfl rfl
theorem mw_co_X3_placeOf : (Cond.code ({ cls := "MountTable", name := "placeOf", desc := "(I)I" } : MethodName) prog_1_method_29_code (5 : Nat) (Option.some ClassFile.FieldType.int)) ∈ mt_T := mt_m1 76 rfl rfl
theorem mw_ml_X3_113 : (Cond.methodLink "MountTable" (113 : Nat) ({ cls := "MountTable", name := "serverAt", desc := "(I)I" } : MethodName)) ∈ mt_T := mt_m1 77 rfl rfl
theorem mw_im_X3_serverAt : (Cond.instanceMethod ({ cls := "MountTable", name := "serverAt", desc := "(I)I" } : MethodName)) ∈ mt_T := mt_m1 79 rfl rfl
theorem mw_co_X3_serverAt : (Cond.code ({ cls := "MountTable", name := "serverAt", desc := "(I)I" } : MethodName) prog_1_method_48_code (2 : Nat) (Option.some ClassFile.FieldType.int)) ∈ mt_T := mt_m1 80 rfl rfl
theorem mw_ml_X3_272 : (Cond.methodLink "MountTable" (272 : Nat) ({ cls := "MountTable", name := "isPlace", desc := "(I)Z" } : MethodName)) ∈ mt_T := mt_m1 81 rfl rfl
theorem mw_st_X3_isPlace : (Cond.static ({ cls := "MountTable", name := "isPlace", desc := "(I)Z" } : MethodName)) ∈ mt_T := mt_m1 82 rfl rfl
theorem mw_co_X3_isPlace : (Cond.code ({ cls := "MountTable", name := "isPlace", desc := "(I)Z" } : MethodName) prog_1_method_30_code (1 : Nat) (Option.some ClassFile.FieldType.boolean)) ∈ mt_T := mt_m1 83 rfl rfl
theorem mw_ml_L_174 : (Cond.methodLink "MountTableLaw" (174 : Nat) ({ cls := "MountTable", name := "hidden", desc := "()I" } : MethodName)) ∈ mt_T := mt_m1 84 rfl rfl
theorem mw_im_X3_hidden : (Cond.instanceMethod ({ cls := "MountTable", name := "hidden", desc := "()I" } : MethodName)) ∈ mt_T := mt_m1 85 rfl rfl
theorem mw_se_X3_X3_hidden : (Cond.selects "MountTable" ({ cls := "MountTable", name := "hidden", desc := "()I" } : MethodName) ({ cls := "MountTable", name := "hidden", desc := "()I" } : MethodName)) ∈ mt_T := mt_m1 86 rfl rfl
theorem mw_co_X3_hidden : (Cond.code ({ cls := "MountTable", name := "hidden", desc := "()I" } : MethodName) prog_1_method_21_code (1 : Nat) (Option.some ClassFile.FieldType.int)) ∈ mt_T := mt_m1 87 rfl rfl
theorem mw_ml_X3_213 : (Cond.methodLink "MountTable" (213 : Nat) ({ cls := "MountTable", name := "allBytes", desc := "()I" } : MethodName)) ∈ mt_T := mt_m1 88 rfl rfl
theorem mw_im_X3_allBytes : (Cond.instanceMethod ({ cls := "MountTable", name := "allBytes", desc := "()I" } : MethodName)) ∈ mt_T := mt_m1 90 rfl rfl
theorem mw_co_X3_allBytes : (Cond.code ({ cls := "MountTable", name := "allBytes", desc := "()I" } : MethodName) prog_1_method_38_code (3 : Nat) (Option.some ClassFile.FieldType.int)) ∈ mt_T := mt_m1 91 rfl rfl
theorem mw_ml_X3_130 : (Cond.methodLink "MountTable" (130 : Nat) ({ cls := "MountTable", name := "usedBy", desc := "(I)I" } : MethodName)) ∈ mt_T := mt_m1 92 rfl rfl
theorem mw_im_X3_usedBy : (Cond.instanceMethod ({ cls := "MountTable", name := "usedBy", desc := "(I)I" } : MethodName)) ∈ mt_T := mt_m1 94 rfl rfl
theorem mw_co_X3_usedBy : (Cond.code ({ cls := "MountTable", name := "usedBy", desc := "(I)I" } : MethodName) prog_1_method_35_code (2 : Nat) (Option.some ClassFile.FieldType.int)) ∈ mt_T := mt_m1 95 rfl rfl
theorem mw_ml_X3_207 : (Cond.methodLink "MountTable" (207 : Nat) ({ cls := "MountTable", name := "isOwner", desc := "(I)Z" } : MethodName)) ∈ mt_T := mt_m1 96 rfl rfl
theorem mw_st_X3_isOwner : (Cond.static ({ cls := "MountTable", name := "isOwner", desc := "(I)Z" } : MethodName)) ∈ mt_T := mt_m1 97 rfl rfl
theorem mw_co_X3_isOwner : (Cond.code ({ cls := "MountTable", name := "isOwner", desc := "(I)Z" } : MethodName) prog_1_method_33_code (1 : Nat) (Option.some ClassFile.FieldType.boolean)) ∈ mt_T := mt_m1 98 rfl rfl
theorem mw_ml_X3_216 : (Cond.methodLink "MountTable" (216 : Nat) ({ cls := "MountTable", name := "shownBytes", desc := "()I" } : MethodName)) ∈ mt_T := mt_m1 99 rfl rfl
theorem mw_im_X3_shownBytes : (Cond.instanceMethod ({ cls := "MountTable", name := "shownBytes", desc := "()I" } : MethodName)) ∈ mt_T := mt_m1 101 rfl rfl
theorem mw_co_X3_shownBytes : (Cond.code ({ cls := "MountTable", name := "shownBytes", desc := "()I" } : MethodName) prog_1_method_57_code (4 : Nat) (Option.some ClassFile.FieldType.int)) ∈ mt_T := mt_m1 102 rfl rfl
theorem mw_ml_X3_61 : (Cond.methodLink "MountTable" (61 : Nat) ({ cls := "MountTable", name := "layerAt", desc := "(I)LMountTable$Layer;" } : MethodName)) ∈ mt_T := mt_m1 103 rfl rfl
theorem mw_im_X3_layerAt : (Cond.instanceMethod ({ cls := "MountTable", name := "layerAt", desc := "(I)LMountTable$Layer;" } : MethodName)) ∈ mt_T := mt_m1 105 rfl rfl
theorem mw_co_X3_layerAt : (Cond.code ({ cls := "MountTable", name := "layerAt", desc := "(I)LMountTable$Layer;" } : MethodName) prog_1_method_39_code (2 : Nat) (Option.some (ClassFile.FieldType.object "MountTable$Layer"))) ∈ mt_T := mt_m1 106 rfl rfl
theorem mw_ml_X3_281 : (Cond.methodLink "MountTable" (281 : Nat) ({ cls := "MountTable$Layer", name := "forgetCounted", desc := "()V" } : MethodName)) ∈ mt_T := mt_m1 107 rfl rfl
theorem mw_im_X1_forgetCounted : (Cond.instanceMethod ({ cls := "MountTable$Layer", name := "forgetCounted", desc := "()V" } : MethodName)) ∈ mt_T := mt_m1 108 rfl rfl
theorem mw_se_X1_X1_forgetCounted : (Cond.selects "MountTable$Layer" ({ cls := "MountTable$Layer", name := "forgetCounted", desc := "()V" } : MethodName) ({ cls := "MountTable$Layer", name := "forgetCounted", desc := "()V" } : MethodName)) ∈ mt_T := mt_m1 109 rfl rfl
theorem mw_co_X1_forgetCounted : (Cond.code ({ cls := "MountTable$Layer", name := "forgetCounted", desc := "()V" } : MethodName) prog_3_method_12_code (2 : Nat) (Option.none : Option ClassFile.FieldType)) ∈ mt_T := mt_m1 110 rfl rfl
theorem mw_ml_X3_178 : (Cond.methodLink "MountTable" (178 : Nat) ({ cls := "MountTable", name := "layerShown", desc := "(I)I" } : MethodName)) ∈ mt_T := mt_m1 111 rfl rfl
theorem mw_im_X3_layerShown : (Cond.instanceMethod ({ cls := "MountTable", name := "layerShown", desc := "(I)I" } : MethodName)) ∈ mt_T := mt_m1 113 rfl rfl
theorem mw_co_X3_layerShown : (Cond.code ({ cls := "MountTable", name := "layerShown", desc := "(I)I" } : MethodName) prog_1_method_54_code (2 : Nat) (Option.some ClassFile.FieldType.int)) ∈ mt_T := mt_m1 114 rfl rfl
theorem mw_ml_X3_133 : (Cond.methodLink "MountTable" (133 : Nat) ({ cls := "MountTable", name := "restAt", desc := "(I)I" } : MethodName)) ∈ mt_T := mt_m1 115 rfl rfl
theorem mw_im_X3_restAt : (Cond.instanceMethod ({ cls := "MountTable", name := "restAt", desc := "(I)I" } : MethodName)) ∈ mt_T := mt_m1 117 rfl rfl
theorem mw_co_X3_restAt : (Cond.code ({ cls := "MountTable", name := "restAt", desc := "(I)I" } : MethodName) prog_1_method_49_code (2 : Nat) (Option.some ClassFile.FieldType.int)) ∈ mt_T := mt_m1 118 rfl rfl
theorem mw_ml_X3_194 : (Cond.methodLink "MountTable" (194 : Nat) ({ cls := "MountTable", name := "layerShownBy", desc := "(LMountTable$Mount;I)I" } : MethodName)) ∈ mt_T := mt_m1 119 rfl rfl
theorem mw_im_X3_layerShownBy : (Cond.instanceMethod ({ cls := "MountTable", name := "layerShownBy", desc := "(LMountTable$Mount;I)I" } : MethodName)) ∈ mt_T := mt_m1 121 rfl rfl
theorem mw_co_X3_layerShownBy : (Cond.code ({ cls := "MountTable", name := "layerShownBy", desc := "(LMountTable$Mount;I)I" } : MethodName) prog_1_method_53_code (4 : Nat) (Option.some ClassFile.FieldType.int)) ∈ mt_T := mt_m1 122 rfl rfl
theorem mw_ml_X3_164 : (Cond.methodLink "MountTable" (164 : Nat) ({ cls := "MountTable", name := "kindIn", desc := "(II)I" } : MethodName)) ∈ mt_T := mt_m1 123 rfl rfl
theorem mw_im_X3_kindIn : (Cond.instanceMethod ({ cls := "MountTable", name := "kindIn", desc := "(II)I" } : MethodName)) ∈ mt_T := mt_m1 125 rfl rfl
theorem mw_co_X3_kindIn : (Cond.code ({ cls := "MountTable", name := "kindIn", desc := "(II)I" } : MethodName) prog_1_method_51_code (4 : Nat) (Option.some ClassFile.FieldType.int)) ∈ mt_T := mt_m1 126 rfl rfl
theorem mw_ml_X3_275 : (Cond.methodLink "MountTable" (275 : Nat) ({ cls := "MountTable$Layer", name := "kindAt", desc := "(I)I" } : MethodName)) ∈ mt_T := mt_m1 127 rfl rfl
theorem mw_im_X1_kindAt : (Cond.instanceMethod ({ cls := "MountTable$Layer", name := "kindAt", desc := "(I)I" } : MethodName)) ∈ mt_T := mt_m1 128 rfl rfl
theorem mw_se_X1_X1_kindAt : (Cond.selects "MountTable$Layer" ({ cls := "MountTable$Layer", name := "kindAt", desc := "(I)I" } : MethodName) ({ cls := "MountTable$Layer", name := "kindAt", desc := "(I)I" } : MethodName)) ∈ mt_T := mt_m1 129 rfl rfl
theorem mw_co_X1_kindAt : (Cond.code ({ cls := "MountTable$Layer", name := "kindAt", desc := "(I)I" } : MethodName) prog_3_method_2_code (2 : Nat) (Option.some ClassFile.FieldType.int)) ∈ mt_T := mt_m1 130 rfl rfl
theorem mw_ml_X3_167 : (Cond.methodLink "MountTable" (167 : Nat) ({ cls := "MountTable", name := "isThing", desc := "(I)Z" } : MethodName)) ∈ mt_T := mt_m1 131 rfl rfl
theorem mw_st_X3_isThing : (Cond.static ({ cls := "MountTable", name := "isThing", desc := "(I)Z" } : MethodName)) ∈ mt_T := mt_m1 132 rfl rfl
theorem mw_co_X3_isThing : (Cond.code ({ cls := "MountTable", name := "isThing", desc := "(I)Z" } : MethodName) prog_1_method_50_code (1 : Nat) (Option.some ClassFile.FieldType.boolean)) ∈ mt_T := mt_m1 133 rfl rfl
theorem mw_ml_X3_284 : (Cond.methodLink "MountTable" (284 : Nat) ({ cls := "MountTable$Layer", name := "bytesNotYetCounted", desc := "(I)I" } : MethodName)) ∈ mt_T := mt_m1 134 rfl rfl
theorem mw_im_X1_bytesNotYetCounted : (Cond.instanceMethod ({ cls := "MountTable$Layer", name := "bytesNotYetCounted", desc := "(I)I" } : MethodName)) ∈ mt_T := mt_m1 135 rfl rfl
theorem mw_se_X1_X1_bytesNotYetCounted : (Cond.selects "MountTable$Layer" ({ cls := "MountTable$Layer", name := "bytesNotYetCounted", desc := "(I)I" } : MethodName) ({ cls := "MountTable$Layer", name := "bytesNotYetCounted", desc := "(I)I" } : MethodName)) ∈ mt_T := mt_m1 136 rfl rfl
theorem mw_co_X1_bytesNotYetCounted : (Cond.code ({ cls := "MountTable$Layer", name := "bytesNotYetCounted", desc := "(I)I" } : MethodName) prog_3_method_13_code (2 : Nat) (Option.some ClassFile.FieldType.int)) ∈ mt_T := mt_m1 137 rfl rfl
theorem mw_mn_X1_38 : (Cond.methodLinkNest "MountTable$Layer" (38 : Nat) ({ cls := "MountTable", name := "isPlace", desc := "(I)Z" } : MethodName) "MountTable") ∈ mt_bw := mt_b1 138 rfl rfl
theorem mw_ml_X1_35 : (Cond.methodLink "MountTable$Layer" (35 : Nat) ({ cls := "MountTable$Layer", name := "bytesAt", desc := "(I)I" } : MethodName)) ∈ mt_T := mt_m1 139 rfl rfl
theorem mw_im_X1_bytesAt : (Cond.instanceMethod ({ cls := "MountTable$Layer", name := "bytesAt", desc := "(I)I" } : MethodName)) ∈ mt_T := mt_m1 140 rfl rfl
theorem mw_se_X1_X1_bytesAt : (Cond.selects "MountTable$Layer" ({ cls := "MountTable$Layer", name := "bytesAt", desc := "(I)I" } : MethodName) ({ cls := "MountTable$Layer", name := "bytesAt", desc := "(I)I" } : MethodName)) ∈ mt_T := mt_m1 141 rfl rfl
theorem mw_co_X1_bytesAt : (Cond.code ({ cls := "MountTable$Layer", name := "bytesAt", desc := "(I)I" } : MethodName) prog_3_method_6_code (2 : Nat) (Option.some ClassFile.FieldType.int)) ∈ mt_T := mt_m1 142 rfl rfl
theorem mw_ml_X1_25 : (Cond.methodLink "MountTable$Layer" (25 : Nat) ({ cls := "MountTable$Layer", name := "kindAt", desc := "(I)I" } : MethodName)) ∈ mt_T := mt_m1 143 rfl rfl
theorem mw_ml_X1_29 : (Cond.methodLink "MountTable$Layer" (29 : Nat) ({ cls := "MountTable$Layer", name := "valueAt", desc := "(I)I" } : MethodName)) ∈ mt_T := mt_m1 144 rfl rfl
theorem mw_im_X1_valueAt : (Cond.instanceMethod ({ cls := "MountTable$Layer", name := "valueAt", desc := "(I)I" } : MethodName)) ∈ mt_T := mt_m1 145 rfl rfl
theorem mw_se_X1_X1_valueAt : (Cond.selects "MountTable$Layer" ({ cls := "MountTable$Layer", name := "valueAt", desc := "(I)I" } : MethodName) ({ cls := "MountTable$Layer", name := "valueAt", desc := "(I)I" } : MethodName)) ∈ mt_T := mt_m1 146 rfl rfl
theorem mw_co_X1_valueAt : (Cond.code ({ cls := "MountTable$Layer", name := "valueAt", desc := "(I)I" } : MethodName) prog_3_method_4_code (2 : Nat) (Option.some ClassFile.FieldType.int)) ∈ mt_T := mt_m1 147 rfl rfl
theorem mw_ml_L_178 : (Cond.methodLink "MountTableLaw" (178 : Nat) ({ cls := "MountTable", name := "copies", desc := "()I" } : MethodName)) ∈ mt_T := mt_m1 148 rfl rfl
theorem mw_im_X3_copies : (Cond.instanceMethod ({ cls := "MountTable", name := "copies", desc := "()I" } : MethodName)) ∈ mt_T := mt_m1 149 rfl rfl
theorem mw_se_X3_X3_copies : (Cond.selects "MountTable" ({ cls := "MountTable", name := "copies", desc := "()I" } : MethodName) ({ cls := "MountTable", name := "copies", desc := "()I" } : MethodName)) ∈ mt_T := mt_m1 150 rfl rfl
theorem mw_co_X3_copies : (Cond.code ({ cls := "MountTable", name := "copies", desc := "()I" } : MethodName) prog_1_method_22_code (1 : Nat) (Option.some ClassFile.FieldType.int)) ∈ mt_T := mt_m1 151 rfl rfl
theorem mw_ml_L_106 : (Cond.methodLink "MountTableLaw" (106 : Nat) ({ cls := "MountTableLaw", name := "addLayer", desc := "(LMountTable;[J)I" } : MethodName)) ∈ mt_T := mt_m1 152 rfl rfl
theorem mw_st_L_addLayer : (Cond.static ({ cls := "MountTableLaw", name := "addLayer", desc := "(LMountTable;[J)I" } : MethodName)) ∈ mt_T := mt_m1 153 rfl rfl
theorem mw_cw_L_addLayer : (Cond.codeWith ({ cls := "MountTableLaw", name := "addLayer", desc := "(LMountTable;[J)I" } : MethodName) method_3_code (3 : Nat) (Option.some ClassFile.FieldType.int) [((0 : Nat), (8 : Nat), (11 : Nat), (13 : Nat))]) ∈ mt_T := mt_m1 154 rfl rfl
theorem mw_cl_L_13 : (Cond.classLink "MountTableLaw" (13 : Nat) "java/lang/IllegalStateException") ∈ mt_T := mt_m1 155 rfl rfl
theorem mw_ml_L_7 : (Cond.methodLink "MountTableLaw" (7 : Nat) ({ cls := "MountTable", name := "addLayer", desc := "()I" } : MethodName)) ∈ mt_T := mt_m1 156 rfl rfl
theorem mw_im_X3_addLayer : (Cond.instanceMethod ({ cls := "MountTable", name := "addLayer", desc := "()I" } : MethodName)) ∈ mt_T := mt_m1 157 rfl rfl
theorem mw_se_X3_X3_addLayer : (Cond.selects "MountTable" ({ cls := "MountTable", name := "addLayer", desc := "()I" } : MethodName) ({ cls := "MountTable", name := "addLayer", desc := "()I" } : MethodName)) ∈ mt_T := mt_m1 158 rfl rfl
theorem mw_co_X3_addLayer : (Cond.code ({ cls := "MountTable", name := "addLayer", desc := "()I" } : MethodName) prog_1_method_2_code (2 : Nat) (Option.some ClassFile.FieldType.int)) ∈ mt_T := mt_m1 159 rfl rfl
theorem mw_cl_X3_44 : (Cond.classLink "MountTable" (44 : Nat) "java/lang/IllegalStateException") ∈ mt_T := mt_m1 160 rfl rfl
theorem mw_ii_java_lang_IllegalStateException : (Cond.instantiable "java/lang/IllegalStateException" (6 : Nat)) ∈ mt_T := mt_m1 161 rfl rfl
theorem mw_ca_java_lang_IllegalStateException_java_lang_IllegalStateException : (Cond.castable "java/lang/IllegalStateException" "java/lang/IllegalStateException") ∈ mt_bw := mt_b1 162 rfl rfl
theorem mw_declares_163 : (Cond.declares ({ cls := "java/lang/RuntimeException", name := "<init>", desc := "()V" } : MethodName)) ∈ mt_bw := mt_b1 163 rfl rfl
theorem mw_declares_164 : (Cond.declares ({ cls := "java/lang/RuntimeException", name := "<init>", desc := "(Ljava/lang/String;)V" } : MethodName)) ∈ mt_bw := mt_b1 164 rfl rfl
theorem mw_declares_165 : (Cond.declares ({ cls := "java/lang/Exception", name := "<init>", desc := "()V" } : MethodName)) ∈ mt_bw := mt_b1 165 rfl rfl
theorem mw_declares_166 : (Cond.declares ({ cls := "java/lang/Exception", name := "<init>", desc := "(Ljava/lang/String;)V" } : MethodName)) ∈ mt_bw := mt_b1 166 rfl rfl
theorem mw_declares_167 : (Cond.declares ({ cls := "java/lang/Throwable", name := "<init>", desc := "()V" } : MethodName)) ∈ mt_bw := mt_b1 167 rfl rfl
theorem mw_declares_168 : (Cond.declares ({ cls := "java/lang/Throwable", name := "<init>", desc := "(Ljava/lang/String;)V" } : MethodName)) ∈ mt_bw := mt_b1 168 rfl rfl
theorem mw_se_java_lang_IllegalStateException_java_lang_Throwable_fillInStackTrace_I_Ljava_lang_Throwable_ : (Cond.selects "java/lang/IllegalStateException" ({ cls := "java/lang/Throwable", name := "fillInStackTrace", desc := "(I)Ljava/lang/Throwable;" } : MethodName) ({ cls := "java/lang/Throwable", name := "fillInStackTrace", desc := "(I)Ljava/lang/Throwable;" } : MethodName)) ∈ mt_T := mt_m1 169 rfl rfl
theorem mw_se_java_lang_IllegalStateException_java_lang_Throwable_fillInStackTrace__Ljava_lang_Throwable_ : (Cond.selects "java/lang/IllegalStateException" ({ cls := "java/lang/Throwable", name := "fillInStackTrace", desc := "()Ljava/lang/Throwable;" } : MethodName) ({ cls := "java/lang/Throwable", name := "fillInStackTrace", desc := "()Ljava/lang/Throwable;" } : MethodName)) ∈ mt_T := mt_m1 170 rfl rfl
theorem mw_la_java_lang_IllegalStateException_java_lang_Throwable_cause : (Cond.lays "java/lang/IllegalStateException" "java/lang/Throwable" "cause" "Ljava/lang/Throwable;") ∈ mt_T := mt_m1 171 rfl rfl
theorem mw_la_java_lang_Throwable_java_lang_Throwable_cause : (Cond.lays "java/lang/Throwable" "java/lang/Throwable" "cause" "Ljava/lang/Throwable;") ∈ mt_T := mt_m1 172 rfl rfl
theorem mw_la_java_lang_IllegalStateException_java_lang_Throwable_stackTrace : (Cond.lays "java/lang/IllegalStateException" "java/lang/Throwable" "stackTrace" "[Ljava/lang/StackTraceElement;") ∈ mt_T := mt_m1 173 rfl rfl
theorem mw_la_java_lang_Throwable_java_lang_Throwable_stackTrace : (Cond.lays "java/lang/Throwable" "java/lang/Throwable" "stackTrace" "[Ljava/lang/StackTraceElement;") ∈ mt_T := mt_m1 174 rfl rfl
theorem mw_la_java_lang_IllegalStateException_java_lang_Throwable_suppressedExceptions : (Cond.lays "java/lang/IllegalStateException" "java/lang/Throwable" "suppressedExceptions" "Ljava/util/List;") ∈ mt_T := mt_m1 175 rfl rfl
theorem mw_la_java_lang_Throwable_java_lang_Throwable_suppressedExceptions : (Cond.lays "java/lang/Throwable" "java/lang/Throwable" "suppressedExceptions" "Ljava/util/List;") ∈ mt_T := mt_m1 176 rfl rfl
theorem mw_la_java_lang_IllegalStateException_java_lang_Throwable_detailMessage : (Cond.lays "java/lang/IllegalStateException" "java/lang/Throwable" "detailMessage" "Ljava/lang/String;") ∈ mt_T := mt_m1 177 rfl rfl
theorem mw_la_java_lang_Throwable_java_lang_Throwable_detailMessage : (Cond.lays "java/lang/Throwable" "java/lang/Throwable" "detailMessage" "Ljava/lang/String;") ∈ mt_T := mt_m1 178 rfl rfl
theorem mw_la_java_lang_IllegalStateException_java_lang_Throwable_backtrace : (Cond.lays "java/lang/IllegalStateException" "java/lang/Throwable" "backtrace" "Ljava/lang/Object;") ∈ mt_T := mt_m1 179 rfl rfl
theorem mw_la_java_lang_Throwable_java_lang_Throwable_backtrace : (Cond.lays "java/lang/Throwable" "java/lang/Throwable" "backtrace" "Ljava/lang/Object;") ∈ mt_T := mt_m1 180 rfl rfl
theorem mw_fl_java_lang_Throwable_198 : (Cond.fieldLink "java/lang/Throwable" (198 : Nat) "java/lang/Throwable" "backtrace" "Ljava/lang/Object;") ∈ mt_T := mt_m1 181 rfl rfl
theorem mw_im_java_lang_Throwable__init___V : (Cond.instanceMethod ({ cls := "java/lang/Throwable", name := "<init>", desc := "()V" } : MethodName)) ∈ mt_T := mt_m1 183 rfl rfl
theorem mw_co_java_lang_Throwable__init___V : (Cond.code ({ cls := "java/lang/Throwable", name := "<init>", desc := "()V" } : MethodName) prog_15_method_1_code (1 : Nat) (Option.none : Option ClassFile.FieldType)) ∈ mt_T := mt_m1 184 rfl rfl
theorem mw_ml_java_lang_Throwable_1 : (Cond.methodLink "java/lang/Throwable" (1 : Nat) ({ cls := "java/lang/Object", name := "<init>", desc := "()V" } : MethodName)) ∈ mt_T := mt_m1 185 rfl rfl
theorem mw_fl_java_lang_Throwable_13 : (Cond.fieldLink "java/lang/Throwable" (13 : Nat) "java/lang/Throwable" "UNASSIGNED_STACK" "[Ljava/lang/StackTraceElement;") ∈ mt_T := mt_m1 186 rfl rfl
theorem mw_fl_java_lang_Throwable_20 : (Cond.fieldLink "java/lang/Throwable" (20 : Nat) "java/lang/Throwable" "SUPPRESSED_SENTINEL" "Ljava/util/List;") ∈ mt_T := mt_m1 188 rfl rfl
theorem mw_ml_java_lang_Throwable_27 : (Cond.methodLink "java/lang/Throwable" (27 : Nat) ({ cls := "java/lang/Throwable", name := "fillInStackTrace", desc := "()Ljava/lang/Throwable;" } : MethodName)) ∈ mt_T := mt_m1 190 rfl rfl
theorem mw_im_java_lang_Throwable_fillInStackTrace__Ljava_lang_Throwable_ : (Cond.instanceMethod ({ cls := "java/lang/Throwable", name := "fillInStackTrace", desc := "()Ljava/lang/Throwable;" } : MethodName)) ∈ mt_T := mt_m1 191 rfl rfl
theorem mw_se_java_lang_ArithmeticException_java_lang_Throwable_fillInStackTrace__Ljava_lang_Throwable_ : (Cond.selects "java/lang/ArithmeticException" ({ cls := "java/lang/Throwable", name := "fillInStackTrace", desc := "()Ljava/lang/Throwable;" } : MethodName) ({ cls := "java/lang/Throwable", name := "fillInStackTrace", desc := "()Ljava/lang/Throwable;" } : MethodName)) ∈ mt_T := mt_m1 193 rfl rfl
theorem mw_se_Jx00060_java_lang_Throwable_fillInStackTrace__Ljava_lang_Throwable_ : (Cond.selects "java/lang/ArrayIndexOutOfBoundsException" ({ cls := "java/lang/Throwable", name := "fillInStackTrace", desc := "()Ljava/lang/Throwable;" } : MethodName) ({ cls := "java/lang/Throwable", name := "fillInStackTrace", desc := "()Ljava/lang/Throwable;" } : MethodName)) ∈ mt_T := mt_m1 194 rfl rfl
theorem mw_se_java_lang_IllegalArgumentException_java_lang_Throwable_fillInStackTrace__Ljava_lang_Throwable_ : (Cond.selects "java/lang/IllegalArgumentException" ({ cls := "java/lang/Throwable", name := "fillInStackTrace", desc := "()Ljava/lang/Throwable;" } : MethodName) ({ cls := "java/lang/Throwable", name := "fillInStackTrace", desc := "()Ljava/lang/Throwable;" } : MethodName)) ∈ mt_T := mt_m1 195 rfl rfl
theorem mw_se_java_lang_IndexOutOfBoundsException_java_lang_Throwable_fillInStackTrace__Ljava_lang_Throwable_ : (Cond.selects "java/lang/IndexOutOfBoundsException" ({ cls := "java/lang/Throwable", name := "fillInStackTrace", desc := "()Ljava/lang/Throwable;" } : MethodName) ({ cls := "java/lang/Throwable", name := "fillInStackTrace", desc := "()Ljava/lang/Throwable;" } : MethodName)) ∈ mt_T := mt_m1 196 rfl rfl
theorem mw_se_java_lang_UnsupportedOperationException_java_lang_Throwable_fillInStackTrace__Ljava_lang_Throwable_ : (Cond.selects "java/lang/UnsupportedOperationException" ({ cls := "java/lang/Throwable", name := "fillInStackTrace", desc := "()Ljava/lang/Throwable;" } : MethodName) ({ cls := "java/lang/Throwable", name := "fillInStackTrace", desc := "()Ljava/lang/Throwable;" } : MethodName)) ∈ mt_T := mt_m1 197 rfl rfl
theorem mw_se_java_util_NoSuchElementException_java_lang_Throwable_fillInStackTrace__Ljava_lang_Throwable_ : (Cond.selects "java/util/NoSuchElementException" ({ cls := "java/lang/Throwable", name := "fillInStackTrace", desc := "()Ljava/lang/Throwable;" } : MethodName) ({ cls := "java/lang/Throwable", name := "fillInStackTrace", desc := "()Ljava/lang/Throwable;" } : MethodName)) ∈ mt_T := mt_m1 198 rfl rfl
theorem mw_ml_java_lang_Throwable_202 : (Cond.methodLink "java/lang/Throwable" (202 : Nat) ({ cls := "java/lang/Throwable", name := "fillInStackTrace", desc := "(I)Ljava/lang/Throwable;" } : MethodName)) ∈ mt_T := mt_m1 200 rfl rfl
theorem mw_im_java_lang_Throwable_fillInStackTrace_I_Ljava_lang_Throwable_ : (Cond.instanceMethod ({ cls := "java/lang/Throwable", name := "fillInStackTrace", desc := "(I)Ljava/lang/Throwable;" } : MethodName)) ∈ mt_T := mt_m1 202 rfl rfl
theorem mw_ii_java_lang_Throwable : (Cond.instantiable "java/lang/Throwable" (6 : Nat)) ∈ mt_T := mt_m1 203 rfl rfl
theorem mw_ml_X3_48 : (Cond.methodLink "MountTable" (48 : Nat) ({ cls := "java/lang/IllegalStateException", name := "<init>", desc := "(Ljava/lang/String;)V" } : MethodName)) ∈ mt_T := mt_m1 206 rfl rfl
theorem mw_im_java_lang_IllegalStateException__init__Ljava_lang_String__V : (Cond.instanceMethod ({ cls := "java/lang/IllegalStateException", name := "<init>", desc := "(Ljava/lang/String;)V" } : MethodName)) ∈ mt_T := mt_m1 207 rfl rfl
theorem mw_co_java_lang_IllegalStateException__init__Ljava_lang_String__V : (Cond.code ({ cls := "java/lang/IllegalStateException", name := "<init>", desc := "(Ljava/lang/String;)V" } : MethodName) prog_11_method_2_code (2 : Nat) (Option.none : Option ClassFile.FieldType)) ∈ mt_T := mt_m1 208 rfl rfl
theorem mw_ml_java_lang_IllegalStateException_7 : (Cond.methodLink "java/lang/IllegalStateException" (7 : Nat) ({ cls := "java/lang/RuntimeException", name := "<init>", desc := "(Ljava/lang/String;)V" } : MethodName)) ∈ mt_T := mt_m1 209 rfl rfl
theorem mw_im_java_lang_RuntimeException__init__Ljava_lang_String__V : (Cond.instanceMethod ({ cls := "java/lang/RuntimeException", name := "<init>", desc := "(Ljava/lang/String;)V" } : MethodName)) ∈ mt_T := mt_m1 210 rfl rfl
theorem mw_co_java_lang_RuntimeException__init__Ljava_lang_String__V : (Cond.code ({ cls := "java/lang/RuntimeException", name := "<init>", desc := "(Ljava/lang/String;)V" } : MethodName) prog_13_method_2_code (2 : Nat) (Option.none : Option ClassFile.FieldType)) ∈ mt_T := mt_m1 211 rfl rfl
theorem mw_ml_java_lang_RuntimeException_7 : (Cond.methodLink "java/lang/RuntimeException" (7 : Nat) ({ cls := "java/lang/Exception", name := "<init>", desc := "(Ljava/lang/String;)V" } : MethodName)) ∈ mt_T := mt_m1 212 rfl rfl
theorem mw_im_java_lang_Exception__init__Ljava_lang_String__V : (Cond.instanceMethod ({ cls := "java/lang/Exception", name := "<init>", desc := "(Ljava/lang/String;)V" } : MethodName)) ∈ mt_T := mt_m1 213 rfl rfl
theorem mw_co_java_lang_Exception__init__Ljava_lang_String__V : (Cond.code ({ cls := "java/lang/Exception", name := "<init>", desc := "(Ljava/lang/String;)V" } : MethodName) prog_9_method_2_code (2 : Nat) (Option.none : Option ClassFile.FieldType)) ∈ mt_T := mt_m1 214 rfl rfl
theorem mw_ml_java_lang_Exception_7 : (Cond.methodLink "java/lang/Exception" (7 : Nat) ({ cls := "java/lang/Throwable", name := "<init>", desc := "(Ljava/lang/String;)V" } : MethodName)) ∈ mt_T := mt_m1 215 rfl rfl
theorem mw_im_java_lang_Throwable__init__Ljava_lang_String__V : (Cond.instanceMethod ({ cls := "java/lang/Throwable", name := "<init>", desc := "(Ljava/lang/String;)V" } : MethodName)) ∈ mt_T := mt_m1 216 rfl rfl
theorem mw_co_java_lang_Throwable__init__Ljava_lang_String__V : (Cond.code ({ cls := "java/lang/Throwable", name := "<init>", desc := "(Ljava/lang/String;)V" } : MethodName) prog_15_method_2_code (2 : Nat) (Option.none : Option ClassFile.FieldType)) ∈ mt_T := mt_m1 217 rfl rfl
theorem mw_fl_java_lang_Throwable_198_218 : (Cond.fieldLink "java/lang/Throwable" (198 : Nat) "java/lang/Throwable" "backtrace" "Ljava/lang/Object;") ∈ mt_T := mt_m1 218 rfl rfl
theorem mw_fl_java_lang_Throwable_31 : (Cond.fieldLink "java/lang/Throwable" (31 : Nat) "java/lang/Throwable" "detailMessage" "Ljava/lang/String;") ∈ mt_T := mt_m1 219 rfl rfl
theorem mw_fl_java_lang_Throwable_7 : (Cond.fieldLink "java/lang/Throwable" (7 : Nat) "java/lang/Throwable" "cause" "Ljava/lang/Throwable;") ∈ mt_T := mt_m1 220 rfl rfl
theorem mw_fl_java_lang_Throwable_17 : (Cond.fieldLink "java/lang/Throwable" (17 : Nat) "java/lang/Throwable" "stackTrace" "[Ljava/lang/StackTraceElement;") ∈ mt_T := mt_m1 221 rfl rfl
theorem mw_fl_java_lang_Throwable_24 : (Cond.fieldLink "java/lang/Throwable" (24 : Nat) "java/lang/Throwable" "suppressedExceptions" "Ljava/util/List;") ∈ mt_T := mt_m1 222 rfl rfl
theorem mw_la_java_lang_IllegalStateException_java_lang_Throwable_depth : (Cond.lays "java/lang/IllegalStateException" "java/lang/Throwable" "depth" "I") ∈ mt_T := mt_m1 227 rfl rfl
theorem mw_ac_byte : (Cond.arrayClass ClassFile.FieldType.byte) ∈ mt_T := mt_m1 231 rfl rfl
theorem mw_ii_X1 : (Cond.instantiable "MountTable$Layer" (4 : Nat)) ∈ mt_T := mt_m1 232 rfl rfl
theorem mw_ml_X3_51 : (Cond.methodLink "MountTable" (51 : Nat) ({ cls := "MountTable$Layer", name := "<init>", desc := "()V" } : MethodName)) ∈ mt_T := mt_m1 233 rfl rfl
theorem mw_im_X1_init : (Cond.instanceMethod ({ cls := "MountTable$Layer", name := "<init>", desc := "()V" } : MethodName)) ∈ mt_T := mt_m1 234 rfl rfl
theorem mw_co_X1_init : (Cond.code ({ cls := "MountTable$Layer", name := "<init>", desc := "()V" } : MethodName) prog_3_method_1_code (1 : Nat) (Option.none : Option ClassFile.FieldType)) ∈ mt_T := mt_m1 235 rfl rfl
theorem mw_ml_X1_3 : (Cond.methodLink "MountTable$Layer" (3 : Nat) ({ cls := "java/lang/Object", name := "<init>", desc := "()V" } : MethodName)) ∈ mt_T := mt_m1 236 rfl rfl
theorem mw_fl_X1_9 : (Cond.fieldLink "MountTable$Layer" (9 : Nat) "MountTable$Layer" "kinds" "[I") ∈ mt_T := mt_m1 237 rfl rfl
theorem mw_fl_X1_15 : (Cond.fieldLink "MountTable$Layer" (15 : Nat) "MountTable$Layer" "owners" "[I") ∈ mt_T := mt_m1 238 rfl rfl
theorem mw_fl_X1_18 : (Cond.fieldLink "MountTable$Layer" (18 : Nat) "MountTable$Layer" "values" "[I") ∈ mt_T := mt_m1 239 rfl rfl
theorem mw_fl_X1_21 : (Cond.fieldLink "MountTable$Layer" (21 : Nat) "MountTable$Layer" "isCounted" "[Z") ∈ mt_T := mt_m2 0 rfl rfl
theorem mw_la_X1_X1_kinds : (Cond.laysFinal "MountTable$Layer" "MountTable$Layer" "kinds" "[I") ∈ mt_T := mt_m2 1 rfl rfl
theorem mw_la_X1_X1_owners : (Cond.laysFinal "MountTable$Layer" "MountTable$Layer" "owners" "[I") ∈ mt_T := mt_m2 3 rfl rfl
theorem mw_la_X1_X1_values : (Cond.laysFinal "MountTable$Layer" "MountTable$Layer" "values" "[I") ∈ mt_T := mt_m2 5 rfl rfl
theorem mw_la_X1_X1_isCounted : (Cond.laysFinal "MountTable$Layer" "MountTable$Layer" "isCounted" "[Z") ∈ mt_T := mt_m2 7 rfl rfl
theorem mw_ac_boolean : (Cond.arrayClass ClassFile.FieldType.boolean) ∈ mt_T := mt_m2 10 rfl rfl
theorem mw_ml_L_115 : (Cond.methodLink "MountTableLaw" (115 : Nat) ({ cls := "MountTableLaw", name := "mount", desc := "(LMountTable;III[J)I" } : MethodName)) ∈ mt_T := mt_m2 11 rfl rfl
theorem mw_st_L_mount : (Cond.static ({ cls := "MountTableLaw", name := "mount", desc := "(LMountTable;III[J)I" } : MethodName)) ∈ mt_T := mt_m2 12 rfl rfl
theorem mw_cw_L_mount : (Cond.codeWith ({ cls := "MountTableLaw", name := "mount", desc := "(LMountTable;III[J)I" } : MethodName) method_4_code (6 : Nat) (Option.some ClassFile.FieldType.int) [((0 : Nat), (12 : Nat), (15 : Nat), (19 : Nat)), ((0 : Nat), (12 : Nat), (19 : Nat), (21 : Nat)), ((0 : Nat), (12 : Nat), (23 : Nat), (23 : Nat)), ((0 : Nat), (12 : Nat), (27 : Nat), (13 : Nat))]) ∈ mt_T := mt_m2 13 rfl rfl
theorem mw_cl_L_19 : (Cond.classLink "MountTableLaw" (19 : Nat) "java/lang/IllegalArgumentException") ∈ mt_T := mt_m2 14 rfl rfl
theorem mw_cl_L_21 : (Cond.classLink "MountTableLaw" (21 : Nat) "java/lang/IndexOutOfBoundsException") ∈ mt_T := mt_m2 15 rfl rfl
theorem mw_ii_Jx00060 : (Cond.instantiable "java/lang/ArrayIndexOutOfBoundsException" (6 : Nat)) ∈ mt_T := mt_m2 16 rfl rfl
theorem mw_im_Jx00060_init_a7421 : (Cond.instanceMethod ({ cls := "java/lang/ArrayIndexOutOfBoundsException", name := "<init>", desc := "(Ljava/lang/String;)V" } : MethodName)) ∈ mt_T := mt_m2 17 rfl rfl
theorem mw_co_Jx00060_init_a7421 : (Cond.code ({ cls := "java/lang/ArrayIndexOutOfBoundsException", name := "<init>", desc := "(Ljava/lang/String;)V" } : MethodName) prog_8_method_2_code (2 : Nat) (Option.none : Option ClassFile.FieldType)) ∈ mt_T := mt_m2 18 rfl rfl
theorem mw_ml_Jx00060_7 : (Cond.methodLink "java/lang/ArrayIndexOutOfBoundsException" (7 : Nat) ({ cls := "java/lang/IndexOutOfBoundsException", name := "<init>", desc := "(Ljava/lang/String;)V" } : MethodName)) ∈ mt_T := mt_m2 19 rfl rfl
theorem mw_im_java_lang_IndexOutOfBoundsException__init__Ljava_lang_String__V : (Cond.instanceMethod ({ cls := "java/lang/IndexOutOfBoundsException", name := "<init>", desc := "(Ljava/lang/String;)V" } : MethodName)) ∈ mt_T := mt_m2 20 rfl rfl
theorem mw_co_java_lang_IndexOutOfBoundsException__init__Ljava_lang_String__V : (Cond.code ({ cls := "java/lang/IndexOutOfBoundsException", name := "<init>", desc := "(Ljava/lang/String;)V" } : MethodName) prog_12_method_2_code (2 : Nat) (Option.none : Option ClassFile.FieldType)) ∈ mt_T := mt_m2 21 rfl rfl
theorem mw_ml_java_lang_IndexOutOfBoundsException_7 : (Cond.methodLink "java/lang/IndexOutOfBoundsException" (7 : Nat) ({ cls := "java/lang/RuntimeException", name := "<init>", desc := "(Ljava/lang/String;)V" } : MethodName)) ∈ mt_T := mt_m2 22 rfl rfl
theorem mw_la_Jx00060_java_lang_Throwable_backtrace : (Cond.lays "java/lang/ArrayIndexOutOfBoundsException" "java/lang/Throwable" "backtrace" "Ljava/lang/Object;") ∈ mt_T := mt_m2 23 rfl rfl
theorem mw_la_Jx00060_java_lang_Throwable_detailMessage : (Cond.lays "java/lang/ArrayIndexOutOfBoundsException" "java/lang/Throwable" "detailMessage" "Ljava/lang/String;") ∈ mt_T := mt_m2 24 rfl rfl
theorem mw_la_Jx00060_java_lang_Throwable_cause : (Cond.lays "java/lang/ArrayIndexOutOfBoundsException" "java/lang/Throwable" "cause" "Ljava/lang/Throwable;") ∈ mt_T := mt_m2 25 rfl rfl
theorem mw_la_Jx00060_java_lang_Throwable_stackTrace : (Cond.lays "java/lang/ArrayIndexOutOfBoundsException" "java/lang/Throwable" "stackTrace" "[Ljava/lang/StackTraceElement;") ∈ mt_T := mt_m2 26 rfl rfl
theorem mw_la_Jx00060_java_lang_Throwable_depth : (Cond.lays "java/lang/ArrayIndexOutOfBoundsException" "java/lang/Throwable" "depth" "I") ∈ mt_T := mt_m2 27 rfl rfl
theorem mw_la_Jx00060_java_lang_Throwable_suppressedExceptions : (Cond.lays "java/lang/ArrayIndexOutOfBoundsException" "java/lang/Throwable" "suppressedExceptions" "Ljava/util/List;") ∈ mt_T := mt_m2 28 rfl rfl
theorem mw_ca_Jx00060_Jx00060 : (Cond.castable "java/lang/ArrayIndexOutOfBoundsException" "java/lang/ArrayIndexOutOfBoundsException") ∈ mt_bw := mt_b2 30 rfl rfl
theorem mw_declares_271 : (Cond.declares ({ cls := "java/lang/IndexOutOfBoundsException", name := "<init>", desc := "()V" } : MethodName)) ∈ mt_bw := mt_b2 31 rfl rfl
theorem mw_declares_272 : (Cond.declares ({ cls := "java/lang/IndexOutOfBoundsException", name := "<init>", desc := "(Ljava/lang/String;)V" } : MethodName)) ∈ mt_bw := mt_b2 32 rfl rfl
theorem mw_se_Jx00060_java_lang_Throwable_fillInStackTrace_I_Ljava_lang_Throwable_ : (Cond.selects "java/lang/ArrayIndexOutOfBoundsException" ({ cls := "java/lang/Throwable", name := "fillInStackTrace", desc := "(I)Ljava/lang/Throwable;" } : MethodName) ({ cls := "java/lang/Throwable", name := "fillInStackTrace", desc := "(I)Ljava/lang/Throwable;" } : MethodName)) ∈ mt_T := mt_m2 33 rfl rfl
theorem mw_ii_J0 : (Cond.instantiable "java/lang/String" (4 : Nat)) ∈ mt_T := mt_m2 34 rfl rfl
theorem mw_la_J0_J0_value : (Cond.laysFinal "java/lang/String" "java/lang/String" "value" "[B") ∈ mt_T := mt_m2 35 rfl rfl
theorem mw_la_J0_J0_coder : (Cond.laysFinal "java/lang/String" "java/lang/String" "coder" "B") ∈ mt_T := mt_m2 37 rfl rfl
theorem mw_cl_L_23 : (Cond.classLink "MountTableLaw" (23 : Nat) "java/lang/UnsupportedOperationException") ∈ mt_T := mt_m2 39 rfl rfl
theorem mw_ml_L_15 : (Cond.methodLink "MountTableLaw" (15 : Nat) ({ cls := "MountTable", name := "mount", desc := "(III)I" } : MethodName)) ∈ mt_T := mt_m2 40 rfl rfl
theorem mw_im_X3_mount : (Cond.instanceMethod ({ cls := "MountTable", name := "mount", desc := "(III)I" } : MethodName)) ∈ mt_T := mt_m2 41 rfl rfl
theorem mw_se_X3_X3_mount : (Cond.selects "MountTable" ({ cls := "MountTable", name := "mount", desc := "(III)I" } : MethodName) ({ cls := "MountTable", name := "mount", desc := "(III)I" } : MethodName)) ∈ mt_T := mt_m2 42 rfl rfl
theorem mw_co_X3_mount : (Cond.code ({ cls := "MountTable", name := "mount", desc := "(III)I" } : MethodName) prog_1_method_3_code (6 : Nat) (Option.some ClassFile.FieldType.int)) ∈ mt_T := mt_m2 43 rfl rfl
theorem mw_cl_X3_56 : (Cond.classLink "MountTable" (56 : Nat) "java/lang/IllegalArgumentException") ∈ mt_T := mt_m2 44 rfl rfl
theorem mw_ii_java_lang_IllegalArgumentException : (Cond.instantiable "java/lang/IllegalArgumentException" (6 : Nat)) ∈ mt_T := mt_m2 45 rfl rfl
theorem mw_ca_java_lang_IllegalArgumentException_java_lang_IllegalArgumentException : (Cond.castable "java/lang/IllegalArgumentException" "java/lang/IllegalArgumentException") ∈ mt_bw := mt_b2 46 rfl rfl
theorem mw_se_java_lang_IllegalArgumentException_java_lang_Throwable_fillInStackTrace_I_Ljava_lang_Throwable_ : (Cond.selects "java/lang/IllegalArgumentException" ({ cls := "java/lang/Throwable", name := "fillInStackTrace", desc := "(I)Ljava/lang/Throwable;" } : MethodName) ({ cls := "java/lang/Throwable", name := "fillInStackTrace", desc := "(I)Ljava/lang/Throwable;" } : MethodName)) ∈ mt_T := mt_m2 47 rfl rfl
theorem mw_la_java_lang_IllegalArgumentException_java_lang_Throwable_cause : (Cond.lays "java/lang/IllegalArgumentException" "java/lang/Throwable" "cause" "Ljava/lang/Throwable;") ∈ mt_T := mt_m2 48 rfl rfl
theorem mw_la_java_lang_IllegalArgumentException_java_lang_Throwable_stackTrace : (Cond.lays "java/lang/IllegalArgumentException" "java/lang/Throwable" "stackTrace" "[Ljava/lang/StackTraceElement;") ∈ mt_T := mt_m2 49 rfl rfl
theorem mw_la_java_lang_IllegalArgumentException_java_lang_Throwable_suppressedExceptions : (Cond.lays "java/lang/IllegalArgumentException" "java/lang/Throwable" "suppressedExceptions" "Ljava/util/List;") ∈ mt_T := mt_m2 50 rfl rfl
theorem mw_la_java_lang_IllegalArgumentException_java_lang_Throwable_detailMessage : (Cond.lays "java/lang/IllegalArgumentException" "java/lang/Throwable" "detailMessage" "Ljava/lang/String;") ∈ mt_T := mt_m2 51 rfl rfl
theorem mw_la_java_lang_IllegalArgumentException_java_lang_Throwable_backtrace : (Cond.lays "java/lang/IllegalArgumentException" "java/lang/Throwable" "backtrace" "Ljava/lang/Object;") ∈ mt_T := mt_m2 52 rfl rfl
theorem mw_ml_X3_60 : (Cond.methodLink "MountTable" (60 : Nat) ({ cls := "java/lang/IllegalArgumentException", name := "<init>", desc := "(Ljava/lang/String;)V" } : MethodName)) ∈ mt_T := mt_m2 54 rfl rfl
theorem mw_im_java_lang_IllegalArgumentException__init__Ljava_lang_String__V : (Cond.instanceMethod ({ cls := "java/lang/IllegalArgumentException", name := "<init>", desc := "(Ljava/lang/String;)V" } : MethodName)) ∈ mt_T := mt_m2 55 rfl rfl
theorem mw_co_java_lang_IllegalArgumentException__init__Ljava_lang_String__V : (Cond.code ({ cls := "java/lang/IllegalArgumentException", name := "<init>", desc := "(Ljava/lang/String;)V" } : MethodName) prog_10_method_2_code (2 : Nat) (Option.none : Option ClassFile.FieldType)) ∈ mt_T := mt_m2 56 rfl rfl
theorem mw_ml_java_lang_IllegalArgumentException_7 : (Cond.methodLink "java/lang/IllegalArgumentException" (7 : Nat) ({ cls := "java/lang/RuntimeException", name := "<init>", desc := "(Ljava/lang/String;)V" } : MethodName)) ∈ mt_T := mt_m2 57 rfl rfl
theorem mw_la_java_lang_IllegalArgumentException_java_lang_Throwable_depth : (Cond.lays "java/lang/IllegalArgumentException" "java/lang/Throwable" "depth" "I") ∈ mt_T := mt_m2 58 rfl rfl
theorem mw_cl_X3_65 : (Cond.classLink "MountTable" (65 : Nat) "java/lang/IndexOutOfBoundsException") ∈ mt_T := mt_m2 60 rfl rfl
theorem mw_ii_java_lang_IndexOutOfBoundsException : (Cond.instantiable "java/lang/IndexOutOfBoundsException" (6 : Nat)) ∈ mt_T := mt_m2 61 rfl rfl
theorem mw_ca_java_lang_IndexOutOfBoundsException_java_lang_IndexOutOfBoundsException : (Cond.castable "java/lang/IndexOutOfBoundsException" "java/lang/IndexOutOfBoundsException") ∈ mt_bw := mt_b2 62 rfl rfl
theorem mw_se_java_lang_IndexOutOfBoundsException_java_lang_Throwable_fillInStackTrace_I_Ljava_lang_Throwable_ : (Cond.selects "java/lang/IndexOutOfBoundsException" ({ cls := "java/lang/Throwable", name := "fillInStackTrace", desc := "(I)Ljava/lang/Throwable;" } : MethodName) ({ cls := "java/lang/Throwable", name := "fillInStackTrace", desc := "(I)Ljava/lang/Throwable;" } : MethodName)) ∈ mt_T := mt_m2 63 rfl rfl
theorem mw_la_java_lang_IndexOutOfBoundsException_java_lang_Throwable_cause : (Cond.lays "java/lang/IndexOutOfBoundsException" "java/lang/Throwable" "cause" "Ljava/lang/Throwable;") ∈ mt_T := mt_m2 64 rfl rfl
theorem mw_la_java_lang_IndexOutOfBoundsException_java_lang_Throwable_stackTrace : (Cond.lays "java/lang/IndexOutOfBoundsException" "java/lang/Throwable" "stackTrace" "[Ljava/lang/StackTraceElement;") ∈ mt_T := mt_m2 65 rfl rfl
theorem mw_la_java_lang_IndexOutOfBoundsException_java_lang_Throwable_suppressedExceptions : (Cond.lays "java/lang/IndexOutOfBoundsException" "java/lang/Throwable" "suppressedExceptions" "Ljava/util/List;") ∈ mt_T := mt_m2 66 rfl rfl
theorem mw_la_java_lang_IndexOutOfBoundsException_java_lang_Throwable_detailMessage : (Cond.lays "java/lang/IndexOutOfBoundsException" "java/lang/Throwable" "detailMessage" "Ljava/lang/String;") ∈ mt_T := mt_m2 67 rfl rfl
theorem mw_la_java_lang_IndexOutOfBoundsException_java_lang_Throwable_backtrace : (Cond.lays "java/lang/IndexOutOfBoundsException" "java/lang/Throwable" "backtrace" "Ljava/lang/Object;") ∈ mt_T := mt_m2 68 rfl rfl
theorem mw_ml_X3_69 : (Cond.methodLink "MountTable" (69 : Nat) ({ cls := "java/lang/IndexOutOfBoundsException", name := "<init>", desc := "(Ljava/lang/String;)V" } : MethodName)) ∈ mt_T := mt_m2 70 rfl rfl
theorem mw_la_java_lang_IndexOutOfBoundsException_java_lang_Throwable_depth : (Cond.lays "java/lang/IndexOutOfBoundsException" "java/lang/Throwable" "depth" "I") ∈ mt_T := mt_m2 71 rfl rfl
theorem mw_ml_X3_70 : (Cond.methodLink "MountTable" (70 : Nat) ({ cls := "MountTable", name := "isUpperOfSome", desc := "(I)Z" } : MethodName)) ∈ mt_T := mt_m2 73 rfl rfl
theorem mw_im_X3_isUpperOfSome : (Cond.instanceMethod ({ cls := "MountTable", name := "isUpperOfSome", desc := "(I)Z" } : MethodName)) ∈ mt_T := mt_m2 75 rfl rfl
theorem mw_co_X3_isUpperOfSome : (Cond.code ({ cls := "MountTable", name := "isUpperOfSome", desc := "(I)Z" } : MethodName) prog_1_method_44_code (4 : Nat) (Option.some ClassFile.FieldType.boolean)) ∈ mt_T := mt_m2 76 rfl rfl
theorem mw_ml_X3_74 : (Cond.methodLink "MountTable" (74 : Nat) ({ cls := "MountTable", name := "isInSome", desc := "(I)Z" } : MethodName)) ∈ mt_T := mt_m2 77 rfl rfl
theorem mw_im_X3_isInSome : (Cond.instanceMethod ({ cls := "MountTable", name := "isInSome", desc := "(I)Z" } : MethodName)) ∈ mt_T := mt_m2 79 rfl rfl
theorem mw_co_X3_isInSome : (Cond.code ({ cls := "MountTable", name := "isInSome", desc := "(I)Z" } : MethodName) prog_1_method_45_code (4 : Nat) (Option.some ClassFile.FieldType.boolean)) ∈ mt_T := mt_m2 80 rfl rfl
theorem mw_cl_X3_77 : (Cond.classLink "MountTable" (77 : Nat) "java/lang/UnsupportedOperationException") ∈ mt_T := mt_m2 81 rfl rfl
theorem mw_ii_java_lang_UnsupportedOperationException : (Cond.instantiable "java/lang/UnsupportedOperationException" (6 : Nat)) ∈ mt_T := mt_m2 82 rfl rfl
theorem mw_ca_java_lang_UnsupportedOperationException_java_lang_UnsupportedOperationException : (Cond.castable "java/lang/UnsupportedOperationException" "java/lang/UnsupportedOperationException") ∈ mt_bw := mt_b2 83 rfl rfl
theorem mw_se_java_lang_UnsupportedOperationException_java_lang_Throwable_fillInStackTrace_I_Ljava_lang_Throwable_ : (Cond.selects "java/lang/UnsupportedOperationException" ({ cls := "java/lang/Throwable", name := "fillInStackTrace", desc := "(I)Ljava/lang/Throwable;" } : MethodName) ({ cls := "java/lang/Throwable", name := "fillInStackTrace", desc := "(I)Ljava/lang/Throwable;" } : MethodName)) ∈ mt_T := mt_m2 84 rfl rfl
theorem mw_la_java_lang_UnsupportedOperationException_java_lang_Throwable_cause : (Cond.lays "java/lang/UnsupportedOperationException" "java/lang/Throwable" "cause" "Ljava/lang/Throwable;") ∈ mt_T := mt_m2 85 rfl rfl
theorem mw_la_java_lang_UnsupportedOperationException_java_lang_Throwable_stackTrace : (Cond.lays "java/lang/UnsupportedOperationException" "java/lang/Throwable" "stackTrace" "[Ljava/lang/StackTraceElement;") ∈ mt_T := mt_m2 86 rfl rfl
theorem mw_la_java_lang_UnsupportedOperationException_java_lang_Throwable_suppressedExceptions : (Cond.lays "java/lang/UnsupportedOperationException" "java/lang/Throwable" "suppressedExceptions" "Ljava/util/List;") ∈ mt_T := mt_m2 87 rfl rfl
theorem mw_la_java_lang_UnsupportedOperationException_java_lang_Throwable_detailMessage : (Cond.lays "java/lang/UnsupportedOperationException" "java/lang/Throwable" "detailMessage" "Ljava/lang/String;") ∈ mt_T := mt_m2 88 rfl rfl
theorem mw_la_java_lang_UnsupportedOperationException_java_lang_Throwable_backtrace : (Cond.lays "java/lang/UnsupportedOperationException" "java/lang/Throwable" "backtrace" "Ljava/lang/Object;") ∈ mt_T := mt_m2 89 rfl rfl
theorem mw_ml_X3_81 : (Cond.methodLink "MountTable" (81 : Nat) ({ cls := "java/lang/UnsupportedOperationException", name := "<init>", desc := "(Ljava/lang/String;)V" } : MethodName)) ∈ mt_T := mt_m2 91 rfl rfl
theorem mw_im_java_lang_UnsupportedOperationException__init__Ljava_lang_String__V : (Cond.instanceMethod ({ cls := "java/lang/UnsupportedOperationException", name := "<init>", desc := "(Ljava/lang/String;)V" } : MethodName)) ∈ mt_T := mt_m2 92 rfl rfl
theorem mw_co_java_lang_UnsupportedOperationException__init__Ljava_lang_String__V : (Cond.code ({ cls := "java/lang/UnsupportedOperationException", name := "<init>", desc := "(Ljava/lang/String;)V" } : MethodName) prog_16_method_2_code (2 : Nat) (Option.none : Option ClassFile.FieldType)) ∈ mt_T := mt_m2 93 rfl rfl
theorem mw_ml_java_lang_UnsupportedOperationException_7 : (Cond.methodLink "java/lang/UnsupportedOperationException" (7 : Nat) ({ cls := "java/lang/RuntimeException", name := "<init>", desc := "(Ljava/lang/String;)V" } : MethodName)) ∈ mt_T := mt_m2 94 rfl rfl
theorem mw_la_java_lang_UnsupportedOperationException_java_lang_Throwable_depth : (Cond.lays "java/lang/UnsupportedOperationException" "java/lang/Throwable" "depth" "I") ∈ mt_T := mt_m2 95 rfl rfl
theorem mw_ii_X2 : (Cond.instantiable "MountTable$Mount" (5 : Nat)) ∈ mt_T := mt_m2 98 rfl rfl
theorem mw_ml_X3_87 : (Cond.methodLink "MountTable" (87 : Nat) ({ cls := "MountTable$Mount", name := "<init>", desc := "(III)V" } : MethodName)) ∈ mt_T := mt_m2 99 rfl rfl
theorem mw_im_X2_init : (Cond.instanceMethod ({ cls := "MountTable$Mount", name := "<init>", desc := "(III)V" } : MethodName)) ∈ mt_T := mt_m2 100 rfl rfl
theorem mw_co_X2_init : (Cond.code ({ cls := "MountTable$Mount", name := "<init>", desc := "(III)V" } : MethodName) prog_4_method_1_code (4 : Nat) (Option.none : Option ClassFile.FieldType)) ∈ mt_T := mt_m2 101 rfl rfl
theorem mw_ml_X2_3 : (Cond.methodLink "MountTable$Mount" (3 : Nat) ({ cls := "java/lang/Object", name := "<init>", desc := "()V" } : MethodName)) ∈ mt_T := mt_m2 102 rfl rfl
theorem mw_fl_X2_15 : (Cond.fieldLink "MountTable$Mount" (15 : Nat) "MountTable$Mount" "lower" "I") ∈ mt_T := mt_m2 103 rfl rfl
theorem mw_fn_X3_161 : (Cond.fieldLinkNest "MountTable" (161 : Nat) "MountTable$Mount" "lower" "I" "MountTable") ∈ mt_bw := mt_b2 104 rfl rfl
theorem mw_fl_X2_18 : (Cond.fieldLink "MountTable$Mount" (18 : Nat) "MountTable$Mount" "upper" "I") ∈ mt_T := mt_m2 105 rfl rfl
theorem mw_fn_X3_158 : (Cond.fieldLinkNest "MountTable" (158 : Nat) "MountTable$Mount" "upper" "I" "MountTable") ∈ mt_bw := mt_b2 106 rfl rfl
theorem mw_fl_X2_9 : (Cond.fieldLink "MountTable$Mount" (9 : Nat) "MountTable$Mount" "point" "I") ∈ mt_T := mt_m2 107 rfl rfl
theorem mw_fn_X3_107 : (Cond.fieldLinkNest "MountTable" (107 : Nat) "MountTable$Mount" "point" "I" "MountTable") ∈ mt_bw := mt_b2 108 rfl rfl
theorem mw_fl_X2_21 : (Cond.fieldLink "MountTable$Mount" (21 : Nat) "MountTable$Mount" "isThere" "Z") ∈ mt_T := mt_m2 109 rfl rfl
theorem mw_fn_X3_97 : (Cond.fieldLinkNest "MountTable" (97 : Nat) "MountTable$Mount" "isThere" "Z" "MountTable") ∈ mt_bw := mt_b2 110 rfl rfl
theorem mw_fn_X3_110 : (Cond.fieldLinkNest "MountTable" (110 : Nat) "MountTable$Mount" "isCrossing" "Z" "MountTable") ∈ mt_bw := mt_b2 111 rfl rfl
theorem mw_la_X2_X2_lower : (Cond.laysFinal "MountTable$Mount" "MountTable$Mount" "lower" "I") ∈ mt_T := mt_m2 112 rfl rfl
theorem mw_la_X2_X2_upper : (Cond.laysFinal "MountTable$Mount" "MountTable$Mount" "upper" "I") ∈ mt_T := mt_m2 114 rfl rfl
theorem mw_la_X2_X2_point : (Cond.lays "MountTable$Mount" "MountTable$Mount" "point" "I") ∈ mt_T := mt_m2 116 rfl rfl
theorem mw_la_X2_X2_isThere : (Cond.lays "MountTable$Mount" "MountTable$Mount" "isThere" "Z") ∈ mt_T := mt_m2 118 rfl rfl
theorem mw_la_X2_X2_isCrossing : (Cond.lays "MountTable$Mount" "MountTable$Mount" "isCrossing" "Z") ∈ mt_T := mt_m2 120 rfl rfl
theorem mw_ml_X3_90 : (Cond.methodLink "MountTable" (90 : Nat) ({ cls := "MountTable", name := "serveAgain", desc := "()V" } : MethodName)) ∈ mt_T := mt_m2 123 rfl rfl
theorem mw_im_X3_serveAgain : (Cond.instanceMethod ({ cls := "MountTable", name := "serveAgain", desc := "()V" } : MethodName)) ∈ mt_T := mt_m2 125 rfl rfl
theorem mw_co_X3_serveAgain : (Cond.code ({ cls := "MountTable", name := "serveAgain", desc := "()V" } : MethodName) prog_1_method_46_code (3 : Nat) (Option.none : Option ClassFile.FieldType)) ∈ mt_T := mt_m2 126 rfl rfl
theorem mw_ml_X3_268 : (Cond.methodLink "MountTable" (268 : Nat) ({ cls := "MountTable", name := "serveBehind", desc := "(II)V" } : MethodName)) ∈ mt_T := mt_m2 127 rfl rfl
theorem mw_im_X3_serveBehind : (Cond.instanceMethod ({ cls := "MountTable", name := "serveBehind", desc := "(II)V" } : MethodName)) ∈ mt_T := mt_m2 129 rfl rfl
theorem mw_co_X3_serveBehind : (Cond.code ({ cls := "MountTable", name := "serveBehind", desc := "(II)V" } : MethodName) prog_1_method_47_code (9 : Nat) (Option.none : Option ClassFile.FieldType)) ∈ mt_T := mt_m2 130 rfl rfl
theorem mw_ml_L_119 : (Cond.methodLink "MountTableLaw" (119 : Nat) ({ cls := "MountTableLaw", name := "unmount", desc := "(LMountTable;I[J)I" } : MethodName)) ∈ mt_T := mt_m2 131 rfl rfl
theorem mw_st_L_unmount : (Cond.static ({ cls := "MountTableLaw", name := "unmount", desc := "(LMountTable;I[J)I" } : MethodName)) ∈ mt_T := mt_m2 132 rfl rfl
theorem mw_cw_L_unmount : (Cond.codeWith ({ cls := "MountTableLaw", name := "unmount", desc := "(LMountTable;I[J)I" } : MethodName) method_5_code (4 : Nat) (Option.some ClassFile.FieldType.int) [((0 : Nat), (9 : Nat), (12 : Nat), (21 : Nat))]) ∈ mt_T := mt_m2 133 rfl rfl
theorem mw_ml_L_25 : (Cond.methodLink "MountTableLaw" (25 : Nat) ({ cls := "MountTable", name := "unmount", desc := "(I)I" } : MethodName)) ∈ mt_T := mt_m2 134 rfl rfl
theorem mw_im_X3_unmount : (Cond.instanceMethod ({ cls := "MountTable", name := "unmount", desc := "(I)I" } : MethodName)) ∈ mt_T := mt_m2 135 rfl rfl
theorem mw_se_X3_X3_unmount : (Cond.selects "MountTable" ({ cls := "MountTable", name := "unmount", desc := "(I)I" } : MethodName) ({ cls := "MountTable", name := "unmount", desc := "(I)I" } : MethodName)) ∈ mt_T := mt_m2 136 rfl rfl
theorem mw_co_X3_unmount : (Cond.code ({ cls := "MountTable", name := "unmount", desc := "(I)I" } : MethodName) prog_1_method_4_code (4 : Nat) (Option.some ClassFile.FieldType.int)) ∈ mt_T := mt_m2 137 rfl rfl
theorem mw_ml_X3_93 : (Cond.methodLink "MountTable" (93 : Nat) ({ cls := "MountTable", name := "checkedMount", desc := "(I)LMountTable$Mount;" } : MethodName)) ∈ mt_T := mt_m2 138 rfl rfl
theorem mw_im_X3_checkedMount : (Cond.instanceMethod ({ cls := "MountTable", name := "checkedMount", desc := "(I)LMountTable$Mount;" } : MethodName)) ∈ mt_T := mt_m2 140 rfl rfl
theorem mw_co_X3_checkedMount : (Cond.code ({ cls := "MountTable", name := "checkedMount", desc := "(I)LMountTable$Mount;" } : MethodName) prog_1_method_42_code (3 : Nat) (Option.some (ClassFile.FieldType.object "MountTable$Mount"))) ∈ mt_T := mt_m2 141 rfl rfl
theorem mw_ml_L_123 : (Cond.methodLink "MountTableLaw" (123 : Nat) ({ cls := "MountTableLaw", name := "move", desc := "(LMountTable;II[J)I" } : MethodName)) ∈ mt_T := mt_m2 143 rfl rfl
theorem mw_st_L_move : (Cond.static ({ cls := "MountTableLaw", name := "move", desc := "(LMountTable;II[J)I" } : MethodName)) ∈ mt_T := mt_m2 144 rfl rfl
theorem mw_cw_L_move : (Cond.codeWith ({ cls := "MountTableLaw", name := "move", desc := "(LMountTable;II[J)I" } : MethodName) method_6_code (5 : Nat) (Option.some ClassFile.FieldType.int) [((0 : Nat), (10 : Nat), (13 : Nat), (21 : Nat)), ((0 : Nat), (10 : Nat), (17 : Nat), (19 : Nat))]) ∈ mt_T := mt_m2 145 rfl rfl
theorem mw_ml_L_29 : (Cond.methodLink "MountTableLaw" (29 : Nat) ({ cls := "MountTable", name := "move", desc := "(II)I" } : MethodName)) ∈ mt_T := mt_m2 146 rfl rfl
theorem mw_im_X3_move : (Cond.instanceMethod ({ cls := "MountTable", name := "move", desc := "(II)I" } : MethodName)) ∈ mt_T := mt_m2 147 rfl rfl
theorem mw_se_X3_X3_move : (Cond.selects "MountTable" ({ cls := "MountTable", name := "move", desc := "(II)I" } : MethodName) ({ cls := "MountTable", name := "move", desc := "(II)I" } : MethodName)) ∈ mt_T := mt_m2 148 rfl rfl
theorem mw_co_X3_move : (Cond.code ({ cls := "MountTable", name := "move", desc := "(II)I" } : MethodName) prog_1_method_5_code (5 : Nat) (Option.some ClassFile.FieldType.int)) ∈ mt_T := mt_m2 149 rfl rfl
theorem mw_ml_X3_104 : (Cond.methodLink "MountTable" (104 : Nat) ({ cls := "MountTable", name := "checkedPlace", desc := "(I)I" } : MethodName)) ∈ mt_T := mt_m2 150 rfl rfl
theorem mw_st_X3_checkedPlace : (Cond.static ({ cls := "MountTable", name := "checkedPlace", desc := "(I)I" } : MethodName)) ∈ mt_T := mt_m2 151 rfl rfl
theorem mw_co_X3_checkedPlace : (Cond.code ({ cls := "MountTable", name := "checkedPlace", desc := "(I)I" } : MethodName) prog_1_method_31_code (2 : Nat) (Option.some ClassFile.FieldType.int)) ∈ mt_T := mt_m2 152 rfl rfl
theorem mw_ml_L_127 : (Cond.methodLink "MountTableLaw" (127 : Nat) ({ cls := "MountTableLaw", name := "setCrossing", desc := "(LMountTable;IZ[J)I" } : MethodName)) ∈ mt_T := mt_m2 154 rfl rfl
theorem mw_st_L_setCrossing : (Cond.static ({ cls := "MountTableLaw", name := "setCrossing", desc := "(LMountTable;IZ[J)I" } : MethodName)) ∈ mt_T := mt_m2 155 rfl rfl
theorem mw_cw_L_setCrossing : (Cond.codeWith ({ cls := "MountTableLaw", name := "setCrossing", desc := "(LMountTable;IZ[J)I" } : MethodName) method_7_code (5 : Nat) (Option.some ClassFile.FieldType.int) [((0 : Nat), (17 : Nat), (20 : Nat), (21 : Nat))]) ∈ mt_T := mt_m2 156 rfl rfl
theorem mw_ml_L_33 : (Cond.methodLink "MountTableLaw" (33 : Nat) ({ cls := "MountTable", name := "setCrossing", desc := "(IZ)Z" } : MethodName)) ∈ mt_T := mt_m2 157 rfl rfl
theorem mw_im_X3_setCrossing : (Cond.instanceMethod ({ cls := "MountTable", name := "setCrossing", desc := "(IZ)Z" } : MethodName)) ∈ mt_T := mt_m2 158 rfl rfl
theorem mw_se_X3_X3_setCrossing : (Cond.selects "MountTable" ({ cls := "MountTable", name := "setCrossing", desc := "(IZ)Z" } : MethodName) ({ cls := "MountTable", name := "setCrossing", desc := "(IZ)Z" } : MethodName)) ∈ mt_T := mt_m2 159 rfl rfl
theorem mw_co_X3_setCrossing : (Cond.code ({ cls := "MountTable", name := "setCrossing", desc := "(IZ)Z" } : MethodName) prog_1_method_6_code (5 : Nat) (Option.some ClassFile.FieldType.boolean)) ∈ mt_T := mt_m2 160 rfl rfl
theorem mw_ml_L_131 : (Cond.methodLink "MountTableLaw" (131 : Nat) ({ cls := "MountTableLaw", name := "served", desc := "(LMountTable;I[J)I" } : MethodName)) ∈ mt_T := mt_m2 161 rfl rfl
theorem mw_st_L_served : (Cond.static ({ cls := "MountTableLaw", name := "served", desc := "(LMountTable;I[J)I" } : MethodName)) ∈ mt_T := mt_m2 162 rfl rfl
theorem mw_cw_L_served : (Cond.codeWith ({ cls := "MountTableLaw", name := "served", desc := "(LMountTable;I[J)I" } : MethodName) method_8_code (4 : Nat) (Option.some ClassFile.FieldType.int) [((0 : Nat), (9 : Nat), (12 : Nat), (19 : Nat)), ((0 : Nat), (9 : Nat), (15 : Nat), (40 : Nat))]) ∈ mt_T := mt_m2 163 rfl rfl
theorem mw_cl_L_40 : (Cond.classLink "MountTableLaw" (40 : Nat) "java/util/NoSuchElementException") ∈ mt_T := mt_m2 164 rfl rfl
theorem mw_ml_L_37 : (Cond.methodLink "MountTableLaw" (37 : Nat) ({ cls := "MountTable", name := "served", desc := "(I)I" } : MethodName)) ∈ mt_T := mt_m2 165 rfl rfl
theorem mw_im_X3_served : (Cond.instanceMethod ({ cls := "MountTable", name := "served", desc := "(I)I" } : MethodName)) ∈ mt_T := mt_m2 166 rfl rfl
theorem mw_se_X3_X3_served : (Cond.selects "MountTable" ({ cls := "MountTable", name := "served", desc := "(I)I" } : MethodName) ({ cls := "MountTable", name := "served", desc := "(I)I" } : MethodName)) ∈ mt_T := mt_m2 167 rfl rfl
theorem mw_co_X3_served : (Cond.code ({ cls := "MountTable", name := "served", desc := "(I)I" } : MethodName) prog_1_method_7_code (3 : Nat) (Option.some ClassFile.FieldType.int)) ∈ mt_T := mt_m2 168 rfl rfl
theorem mw_cl_X3_116 : (Cond.classLink "MountTable" (116 : Nat) "java/util/NoSuchElementException") ∈ mt_T := mt_m2 169 rfl rfl
theorem mw_ii_java_util_NoSuchElementException : (Cond.instantiable "java/util/NoSuchElementException" (6 : Nat)) ∈ mt_T := mt_m2 170 rfl rfl
theorem mw_ca_java_util_NoSuchElementException_java_util_NoSuchElementException : (Cond.castable "java/util/NoSuchElementException" "java/util/NoSuchElementException") ∈ mt_bw := mt_b2 171 rfl rfl
theorem mw_se_java_util_NoSuchElementException_java_lang_Throwable_fillInStackTrace_I_Ljava_lang_Throwable_ : (Cond.selects "java/util/NoSuchElementException" ({ cls := "java/lang/Throwable", name := "fillInStackTrace", desc := "(I)Ljava/lang/Throwable;" } : MethodName) ({ cls := "java/lang/Throwable", name := "fillInStackTrace", desc := "(I)Ljava/lang/Throwable;" } : MethodName)) ∈ mt_T := mt_m2 172 rfl rfl
theorem mw_la_java_util_NoSuchElementException_java_lang_Throwable_cause : (Cond.lays "java/util/NoSuchElementException" "java/lang/Throwable" "cause" "Ljava/lang/Throwable;") ∈ mt_T := mt_m2 173 rfl rfl
theorem mw_la_java_util_NoSuchElementException_java_lang_Throwable_stackTrace : (Cond.lays "java/util/NoSuchElementException" "java/lang/Throwable" "stackTrace" "[Ljava/lang/StackTraceElement;") ∈ mt_T := mt_m2 174 rfl rfl
theorem mw_la_java_util_NoSuchElementException_java_lang_Throwable_suppressedExceptions : (Cond.lays "java/util/NoSuchElementException" "java/lang/Throwable" "suppressedExceptions" "Ljava/util/List;") ∈ mt_T := mt_m2 175 rfl rfl
theorem mw_la_java_util_NoSuchElementException_java_lang_Throwable_detailMessage : (Cond.lays "java/util/NoSuchElementException" "java/lang/Throwable" "detailMessage" "Ljava/lang/String;") ∈ mt_T := mt_m2 176 rfl rfl
theorem mw_la_java_util_NoSuchElementException_java_lang_Throwable_backtrace : (Cond.lays "java/util/NoSuchElementException" "java/lang/Throwable" "backtrace" "Ljava/lang/Object;") ∈ mt_T := mt_m2 177 rfl rfl
theorem mw_ml_X3_120 : (Cond.methodLink "MountTable" (120 : Nat) ({ cls := "java/util/NoSuchElementException", name := "<init>", desc := "(Ljava/lang/String;)V" } : MethodName)) ∈ mt_T := mt_m2 179 rfl rfl
theorem mw_im_java_util_NoSuchElementException__init__Ljava_lang_String__V : (Cond.instanceMethod ({ cls := "java/util/NoSuchElementException", name := "<init>", desc := "(Ljava/lang/String;)V" } : MethodName)) ∈ mt_T := mt_m2 180 rfl rfl
theorem mw_co_java_util_NoSuchElementException__init__Ljava_lang_String__V : (Cond.code ({ cls := "java/util/NoSuchElementException", name := "<init>", desc := "(Ljava/lang/String;)V" } : MethodName) prog_17_method_4_code (2 : Nat) (Option.none : Option ClassFile.FieldType)) ∈ mt_T := mt_m2 181 rfl rfl
theorem mw_ml_java_util_NoSuchElementException_13 : (Cond.methodLink "java/util/NoSuchElementException" (13 : Nat) ({ cls := "java/lang/RuntimeException", name := "<init>", desc := "(Ljava/lang/String;)V" } : MethodName)) ∈ mt_T := mt_m2 182 rfl rfl
theorem mw_la_java_util_NoSuchElementException_java_lang_Throwable_depth : (Cond.lays "java/util/NoSuchElementException" "java/lang/Throwable" "depth" "I") ∈ mt_T := mt_m2 183 rfl rfl
theorem mw_ml_L_138 : (Cond.methodLink "MountTableLaw" (138 : Nat) ({ cls := "MountTableLaw", name := "write", desc := "(LMountTable;III[J)I" } : MethodName)) ∈ mt_T := mt_m2 185 rfl rfl
theorem mw_st_L_write : (Cond.static ({ cls := "MountTableLaw", name := "write", desc := "(LMountTable;III[J)I" } : MethodName)) ∈ mt_T := mt_m2 186 rfl rfl
theorem mw_cw_L_write : (Cond.codeWith ({ cls := "MountTableLaw", name := "write", desc := "(LMountTable;III[J)I" } : MethodName) method_9_code (6 : Nat) (Option.some ClassFile.FieldType.int) [((0 : Nat), (12 : Nat), (15 : Nat), (19 : Nat)), ((0 : Nat), (12 : Nat), (19 : Nat), (40 : Nat)), ((0 : Nat), (12 : Nat), (23 : Nat), (23 : Nat))]) ∈ mt_T := mt_m2 187 rfl rfl
theorem mw_ml_L_42 : (Cond.methodLink "MountTableLaw" (42 : Nat) ({ cls := "MountTable", name := "write", desc := "(III)I" } : MethodName)) ∈ mt_T := mt_m2 188 rfl rfl
theorem mw_im_X3_write : (Cond.instanceMethod ({ cls := "MountTable", name := "write", desc := "(III)I" } : MethodName)) ∈ mt_T := mt_m2 189 rfl rfl
theorem mw_se_X3_X3_write : (Cond.selects "MountTable" ({ cls := "MountTable", name := "write", desc := "(III)I" } : MethodName) ({ cls := "MountTable", name := "write", desc := "(III)I" } : MethodName)) ∈ mt_T := mt_m2 190 rfl rfl
theorem mw_co_X3_write : (Cond.code ({ cls := "MountTable", name := "write", desc := "(III)I" } : MethodName) prog_1_method_9_code (7 : Nat) (Option.some ClassFile.FieldType.int)) ∈ mt_T := mt_m2 191 rfl rfl
theorem mw_ml_X3_121 : (Cond.methodLink "MountTable" (121 : Nat) ({ cls := "MountTable", name := "checkOwner", desc := "(I)V" } : MethodName)) ∈ mt_T := mt_m2 192 rfl rfl
theorem mw_st_X3_checkOwner : (Cond.static ({ cls := "MountTable", name := "checkOwner", desc := "(I)V" } : MethodName)) ∈ mt_T := mt_m2 193 rfl rfl
theorem mw_co_X3_checkOwner : (Cond.code ({ cls := "MountTable", name := "checkOwner", desc := "(I)V" } : MethodName) prog_1_method_34_code (1 : Nat) (Option.none : Option ClassFile.FieldType)) ∈ mt_T := mt_m2 194 rfl rfl
theorem mw_ml_X3_127 : (Cond.methodLink "MountTable" (127 : Nat) ({ cls := "MountTable", name := "layerToWrite", desc := "(I)LMountTable$Layer;" } : MethodName)) ∈ mt_T := mt_m2 197 rfl rfl
theorem mw_im_X3_layerToWrite : (Cond.instanceMethod ({ cls := "MountTable", name := "layerToWrite", desc := "(I)LMountTable$Layer;" } : MethodName)) ∈ mt_T := mt_m2 199 rfl rfl
theorem mw_co_X3_layerToWrite : (Cond.code ({ cls := "MountTable", name := "layerToWrite", desc := "(I)LMountTable$Layer;" } : MethodName) prog_1_method_61_code (4 : Nat) (Option.some (ClassFile.FieldType.object "MountTable$Layer"))) ∈ mt_T := mt_m2 200 rfl rfl
theorem mw_ml_X3_170 : (Cond.methodLink "MountTable" (170 : Nat) ({ cls := "MountTable$Mount", name := "written", desc := "()I" } : MethodName)) ∈ mt_T := mt_m2 201 rfl rfl
theorem mw_im_X2_written : (Cond.instanceMethod ({ cls := "MountTable$Mount", name := "written", desc := "()I" } : MethodName)) ∈ mt_T := mt_m2 202 rfl rfl
theorem mw_se_X2_X2_written : (Cond.selects "MountTable$Mount" ({ cls := "MountTable$Mount", name := "written", desc := "()I" } : MethodName) ({ cls := "MountTable$Mount", name := "written", desc := "()I" } : MethodName)) ∈ mt_T := mt_m2 203 rfl rfl
theorem mw_co_X2_written : (Cond.code ({ cls := "MountTable$Mount", name := "written", desc := "()I" } : MethodName) prog_4_method_2_code (1 : Nat) (Option.some ClassFile.FieldType.int)) ∈ mt_T := mt_m2 204 rfl rfl
theorem mw_ml_X3_136 : (Cond.methodLink "MountTable" (136 : Nat) ({ cls := "MountTable$Layer", name := "bytesOfOwnerAt", desc := "(II)I" } : MethodName)) ∈ mt_T := mt_m2 206 rfl rfl
theorem mw_im_X1_bytesOfOwnerAt : (Cond.instanceMethod ({ cls := "MountTable$Layer", name := "bytesOfOwnerAt", desc := "(II)I" } : MethodName)) ∈ mt_T := mt_m2 207 rfl rfl
theorem mw_se_X1_X1_bytesOfOwnerAt : (Cond.selects "MountTable$Layer" ({ cls := "MountTable$Layer", name := "bytesOfOwnerAt", desc := "(II)I" } : MethodName) ({ cls := "MountTable$Layer", name := "bytesOfOwnerAt", desc := "(II)I" } : MethodName)) ∈ mt_T := mt_m2 208 rfl rfl
theorem mw_co_X1_bytesOfOwnerAt : (Cond.code ({ cls := "MountTable$Layer", name := "bytesOfOwnerAt", desc := "(II)I" } : MethodName) prog_3_method_7_code (3 : Nat) (Option.some ClassFile.FieldType.int)) ∈ mt_T := mt_m2 209 rfl rfl
theorem mw_ml_X1_32 : (Cond.methodLink "MountTable$Layer" (32 : Nat) ({ cls := "MountTable$Layer", name := "ownerAt", desc := "(I)I" } : MethodName)) ∈ mt_T := mt_m2 210 rfl rfl
theorem mw_im_X1_ownerAt : (Cond.instanceMethod ({ cls := "MountTable$Layer", name := "ownerAt", desc := "(I)I" } : MethodName)) ∈ mt_T := mt_m2 211 rfl rfl
theorem mw_se_X1_X1_ownerAt : (Cond.selects "MountTable$Layer" ({ cls := "MountTable$Layer", name := "ownerAt", desc := "(I)I" } : MethodName) ({ cls := "MountTable$Layer", name := "ownerAt", desc := "(I)I" } : MethodName)) ∈ mt_T := mt_m2 212 rfl rfl
theorem mw_co_X1_ownerAt : (Cond.code ({ cls := "MountTable$Layer", name := "ownerAt", desc := "(I)I" } : MethodName) prog_3_method_3_code (2 : Nat) (Option.some ClassFile.FieldType.int)) ∈ mt_T := mt_m2 213 rfl rfl
theorem mw_ml_X3_140 : (Cond.methodLink "MountTable" (140 : Nat) ({ cls := "MountTable", name := "quotaOf", desc := "(I)I" } : MethodName)) ∈ mt_T := mt_m2 214 rfl rfl
theorem mw_im_X3_quotaOf : (Cond.instanceMethod ({ cls := "MountTable", name := "quotaOf", desc := "(I)I" } : MethodName)) ∈ mt_T := mt_m2 216 rfl rfl
theorem mw_co_X3_quotaOf : (Cond.code ({ cls := "MountTable", name := "quotaOf", desc := "(I)I" } : MethodName) prog_1_method_36_code (2 : Nat) (Option.some ClassFile.FieldType.int)) ∈ mt_T := mt_m2 217 rfl rfl
theorem mw_ml_X3_145 : (Cond.methodLink "MountTable" (145 : Nat) ({ cls := "MountTable", name := "putAt", desc := "(ILMountTable$Layer;III)V" } : MethodName)) ∈ mt_T := mt_m2 219 rfl rfl
theorem mw_im_X3_putAt : (Cond.instanceMethod ({ cls := "MountTable", name := "putAt", desc := "(ILMountTable$Layer;III)V" } : MethodName)) ∈ mt_T := mt_m2 221 rfl rfl
theorem mw_co_X3_putAt : (Cond.code ({ cls := "MountTable", name := "putAt", desc := "(ILMountTable$Layer;III)V" } : MethodName) prog_1_method_62_code (7 : Nat) (Option.none : Option ClassFile.FieldType)) ∈ mt_T := mt_m2 222 rfl rfl
theorem mw_ml_X3_174 : (Cond.methodLink "MountTable" (174 : Nat) ({ cls := "MountTable", name := "change", desc := "(LMountTable$Layer;IIII)V" } : MethodName)) ∈ mt_T := mt_m2 223 rfl rfl
theorem mw_im_X3_change : (Cond.instanceMethod ({ cls := "MountTable", name := "change", desc := "(LMountTable$Layer;IIII)V" } : MethodName)) ∈ mt_T := mt_m2 225 rfl rfl
theorem mw_co_X3_change : (Cond.code ({ cls := "MountTable", name := "change", desc := "(LMountTable$Layer;IIII)V" } : MethodName) prog_1_method_63_code (6 : Nat) (Option.none : Option ClassFile.FieldType)) ∈ mt_T := mt_m2 226 rfl rfl
theorem mw_ml_X3_201 : (Cond.methodLink "MountTable" (201 : Nat) ({ cls := "MountTable$Layer", name := "ownerAt", desc := "(I)I" } : MethodName)) ∈ mt_T := mt_m2 227 rfl rfl
theorem mw_ml_X3_155 : (Cond.methodLink "MountTable" (155 : Nat) ({ cls := "MountTable$Layer", name := "bytesAt", desc := "(I)I" } : MethodName)) ∈ mt_T := mt_m2 228 rfl rfl
theorem mw_ml_X3_300 : (Cond.methodLink "MountTable" (300 : Nat) ({ cls := "MountTable", name := "use", desc := "(II)V" } : MethodName)) ∈ mt_T := mt_m2 229 rfl rfl
theorem mw_im_X3_use : (Cond.instanceMethod ({ cls := "MountTable", name := "use", desc := "(II)V" } : MethodName)) ∈ mt_T := mt_m2 231 rfl rfl
theorem mw_co_X3_use : (Cond.code ({ cls := "MountTable", name := "use", desc := "(II)V" } : MethodName) prog_1_method_37_code (3 : Nat) (Option.none : Option ClassFile.FieldType)) ∈ mt_T := mt_m2 232 rfl rfl
theorem mw_ml_X3_303 : (Cond.methodLink "MountTable" (303 : Nat) ({ cls := "MountTable$Layer", name := "put", desc := "(IIII)V" } : MethodName)) ∈ mt_T := mt_m2 233 rfl rfl
theorem mw_im_X1_put : (Cond.instanceMethod ({ cls := "MountTable$Layer", name := "put", desc := "(IIII)V" } : MethodName)) ∈ mt_T := mt_m2 234 rfl rfl
theorem mw_se_X1_X1_put : (Cond.selects "MountTable$Layer" ({ cls := "MountTable$Layer", name := "put", desc := "(IIII)V" } : MethodName) ({ cls := "MountTable$Layer", name := "put", desc := "(IIII)V" } : MethodName)) ∈ mt_T := mt_m2 235 rfl rfl
theorem mw_co_X1_put : (Cond.code ({ cls := "MountTable$Layer", name := "put", desc := "(IIII)V" } : MethodName) prog_3_method_8_code (5 : Nat) (Option.none : Option ClassFile.FieldType)) ∈ mt_T := mt_m2 236 rfl rfl
theorem mw_ml_L_141 : (Cond.methodLink "MountTableLaw" (141 : Nat) ({ cls := "MountTableLaw", name := "link", desc := "(LMountTable;III[J)I" } : MethodName)) ∈ mt_T := mt_m2 237 rfl rfl
theorem mw_st_L_link : (Cond.static ({ cls := "MountTableLaw", name := "link", desc := "(LMountTable;III[J)I" } : MethodName)) ∈ mt_T := mt_m2 238 rfl rfl
theorem mw_cw_L_link : (Cond.codeWith ({ cls := "MountTableLaw", name := "link", desc := "(LMountTable;III[J)I" } : MethodName) method_10_code (6 : Nat) (Option.some ClassFile.FieldType.int) [((0 : Nat), (12 : Nat), (15 : Nat), (19 : Nat)), ((0 : Nat), (12 : Nat), (19 : Nat), (40 : Nat))]) ∈ mt_T := mt_m2 239 rfl rfl
theorem mw_ml_L_45 : (Cond.methodLink "MountTableLaw" (45 : Nat) ({ cls := "MountTable", name := "link", desc := "(III)I" } : MethodName)) ∈ mt_T := mt_m3 0 rfl rfl
theorem mw_im_X3_link : (Cond.instanceMethod ({ cls := "MountTable", name := "link", desc := "(III)I" } : MethodName)) ∈ mt_T := mt_m3 1 rfl rfl
theorem mw_se_X3_X3_link : (Cond.selects "MountTable" ({ cls := "MountTable", name := "link", desc := "(III)I" } : MethodName) ({ cls := "MountTable", name := "link", desc := "(III)I" } : MethodName)) ∈ mt_T := mt_m3 2 rfl rfl
theorem mw_co_X3_link : (Cond.code ({ cls := "MountTable", name := "link", desc := "(III)I" } : MethodName) prog_1_method_10_code (8 : Nat) (Option.some ClassFile.FieldType.int)) ∈ mt_T := mt_m3 3 rfl rfl
theorem mw_ml_X3_149 : (Cond.methodLink "MountTable" (149 : Nat) ({ cls := "MountTable$Layer", name := "countOf", desc := "(I)I" } : MethodName)) ∈ mt_T := mt_m3 4 rfl rfl
theorem mw_im_X1_countOf : (Cond.instanceMethod ({ cls := "MountTable$Layer", name := "countOf", desc := "(I)I" } : MethodName)) ∈ mt_T := mt_m3 5 rfl rfl
theorem mw_se_X1_X1_countOf : (Cond.selects "MountTable$Layer" ({ cls := "MountTable$Layer", name := "countOf", desc := "(I)I" } : MethodName) ({ cls := "MountTable$Layer", name := "countOf", desc := "(I)I" } : MethodName)) ∈ mt_T := mt_m3 6 rfl rfl
theorem mw_co_X1_countOf : (Cond.code ({ cls := "MountTable$Layer", name := "countOf", desc := "(I)I" } : MethodName) prog_3_method_9_code (4 : Nat) (Option.some ClassFile.FieldType.int)) ∈ mt_T := mt_m3 7 rfl rfl
theorem mw_ml_L_144 : (Cond.methodLink "MountTableLaw" (144 : Nat) ({ cls := "MountTableLaw", name := "remove", desc := "(LMountTable;I[J)I" } : MethodName)) ∈ mt_T := mt_m3 8 rfl rfl
theorem mw_st_L_remove : (Cond.static ({ cls := "MountTableLaw", name := "remove", desc := "(LMountTable;I[J)I" } : MethodName)) ∈ mt_T := mt_m3 9 rfl rfl
theorem mw_cw_L_remove : (Cond.codeWith ({ cls := "MountTableLaw", name := "remove", desc := "(LMountTable;I[J)I" } : MethodName) method_11_code (4 : Nat) (Option.some ClassFile.FieldType.int) [((0 : Nat), (9 : Nat), (12 : Nat), (19 : Nat)), ((0 : Nat), (9 : Nat), (15 : Nat), (40 : Nat))]) ∈ mt_T := mt_m3 10 rfl rfl
theorem mw_ml_L_48 : (Cond.methodLink "MountTableLaw" (48 : Nat) ({ cls := "MountTable", name := "remove", desc := "(I)I" } : MethodName)) ∈ mt_T := mt_m3 11 rfl rfl
theorem mw_im_X3_remove : (Cond.instanceMethod ({ cls := "MountTable", name := "remove", desc := "(I)I" } : MethodName)) ∈ mt_T := mt_m3 12 rfl rfl
theorem mw_se_X3_X3_remove : (Cond.selects "MountTable" ({ cls := "MountTable", name := "remove", desc := "(I)I" } : MethodName) ({ cls := "MountTable", name := "remove", desc := "(I)I" } : MethodName)) ∈ mt_T := mt_m3 13 rfl rfl
theorem mw_co_X3_remove : (Cond.code ({ cls := "MountTable", name := "remove", desc := "(I)I" } : MethodName) prog_1_method_11_code (7 : Nat) (Option.some ClassFile.FieldType.int)) ∈ mt_T := mt_m3 14 rfl rfl
theorem mw_ml_X3_152 : (Cond.methodLink "MountTable" (152 : Nat) ({ cls := "MountTable", name := "checkedShown", desc := "(I)LMountTable$Layer;" } : MethodName)) ∈ mt_T := mt_m3 15 rfl rfl
theorem mw_im_X3_checkedShown : (Cond.instanceMethod ({ cls := "MountTable", name := "checkedShown", desc := "(I)LMountTable$Layer;" } : MethodName)) ∈ mt_T := mt_m3 17 rfl rfl
theorem mw_co_X3_checkedShown : (Cond.code ({ cls := "MountTable", name := "checkedShown", desc := "(I)LMountTable$Layer;" } : MethodName) prog_1_method_55_code (3 : Nat) (Option.some (ClassFile.FieldType.object "MountTable$Layer"))) ∈ mt_T := mt_m3 18 rfl rfl
theorem mw_ml_L_147 : (Cond.methodLink "MountTableLaw" (147 : Nat) ({ cls := "MountTableLaw", name := "shows", desc := "(LMountTable;I[J)I" } : MethodName)) ∈ mt_T := mt_m3 20 rfl rfl
theorem mw_st_L_shows : (Cond.static ({ cls := "MountTableLaw", name := "shows", desc := "(LMountTable;I[J)I" } : MethodName)) ∈ mt_T := mt_m3 21 rfl rfl
theorem mw_cw_L_shows : (Cond.codeWith ({ cls := "MountTableLaw", name := "shows", desc := "(LMountTable;I[J)I" } : MethodName) method_12_code (4 : Nat) (Option.some ClassFile.FieldType.int) [((0 : Nat), (9 : Nat), (12 : Nat), (19 : Nat))]) ∈ mt_T := mt_m3 22 rfl rfl
theorem mw_ml_L_51 : (Cond.methodLink "MountTableLaw" (51 : Nat) ({ cls := "MountTable", name := "shows", desc := "(I)C" } : MethodName)) ∈ mt_T := mt_m3 23 rfl rfl
theorem mw_im_X3_shows : (Cond.instanceMethod ({ cls := "MountTable", name := "shows", desc := "(I)C" } : MethodName)) ∈ mt_T := mt_m3 24 rfl rfl
theorem mw_se_X3_X3_shows : (Cond.selects "MountTable" ({ cls := "MountTable", name := "shows", desc := "(I)C" } : MethodName) ({ cls := "MountTable", name := "shows", desc := "(I)C" } : MethodName)) ∈ mt_T := mt_m3 25 rfl rfl
theorem mw_co_X3_shows : (Cond.code ({ cls := "MountTable", name := "shows", desc := "(I)C" } : MethodName) prog_1_method_12_code (3 : Nat) (Option.some ClassFile.FieldType.char)) ∈ mt_T := mt_m3 26 rfl rfl
theorem mw_ml_L_150 : (Cond.methodLink "MountTableLaw" (150 : Nat) ({ cls := "MountTableLaw", name := "layerOf", desc := "(LMountTable;I[J)I" } : MethodName)) ∈ mt_T := mt_m3 27 rfl rfl
theorem mw_st_L_layerOf : (Cond.static ({ cls := "MountTableLaw", name := "layerOf", desc := "(LMountTable;I[J)I" } : MethodName)) ∈ mt_T := mt_m3 28 rfl rfl
theorem mw_cw_L_layerOf : (Cond.codeWith ({ cls := "MountTableLaw", name := "layerOf", desc := "(LMountTable;I[J)I" } : MethodName) method_13_code (4 : Nat) (Option.some ClassFile.FieldType.int) [((0 : Nat), (9 : Nat), (12 : Nat), (19 : Nat)), ((0 : Nat), (9 : Nat), (15 : Nat), (40 : Nat))]) ∈ mt_T := mt_m3 29 rfl rfl
theorem mw_ml_L_55 : (Cond.methodLink "MountTableLaw" (55 : Nat) ({ cls := "MountTable", name := "layerOf", desc := "(I)I" } : MethodName)) ∈ mt_T := mt_m3 30 rfl rfl
theorem mw_im_X3_layerOf : (Cond.instanceMethod ({ cls := "MountTable", name := "layerOf", desc := "(I)I" } : MethodName)) ∈ mt_T := mt_m3 31 rfl rfl
theorem mw_se_X3_X3_layerOf : (Cond.selects "MountTable" ({ cls := "MountTable", name := "layerOf", desc := "(I)I" } : MethodName) ({ cls := "MountTable", name := "layerOf", desc := "(I)I" } : MethodName)) ∈ mt_T := mt_m3 32 rfl rfl
theorem mw_co_X3_layerOf : (Cond.code ({ cls := "MountTable", name := "layerOf", desc := "(I)I" } : MethodName) prog_1_method_13_code (3 : Nat) (Option.some ClassFile.FieldType.int)) ∈ mt_T := mt_m3 33 rfl rfl
theorem mw_ml_L_153 : (Cond.methodLink "MountTableLaw" (153 : Nat) ({ cls := "MountTableLaw", name := "end", desc := "(LMountTable;I[J)I" } : MethodName)) ∈ mt_T := mt_m3 34 rfl rfl
theorem mw_st_L_end : (Cond.static ({ cls := "MountTableLaw", name := "end", desc := "(LMountTable;I[J)I" } : MethodName)) ∈ mt_T := mt_m3 35 rfl rfl
theorem mw_cw_L_end : (Cond.codeWith ({ cls := "MountTableLaw", name := "end", desc := "(LMountTable;I[J)I" } : MethodName) method_14_code (4 : Nat) (Option.some ClassFile.FieldType.int) [((0 : Nat), (9 : Nat), (12 : Nat), (19 : Nat)), ((0 : Nat), (9 : Nat), (15 : Nat), (23 : Nat)), ((0 : Nat), (9 : Nat), (18 : Nat), (13 : Nat))]) ∈ mt_T := mt_m3 36 rfl rfl
theorem mw_ml_L_58 : (Cond.methodLink "MountTableLaw" (58 : Nat) ({ cls := "MountTable", name := "end", desc := "(I)I" } : MethodName)) ∈ mt_T := mt_m3 37 rfl rfl
theorem mw_im_X3_end : (Cond.instanceMethod ({ cls := "MountTable", name := "end", desc := "(I)I" } : MethodName)) ∈ mt_T := mt_m3 38 rfl rfl
theorem mw_se_X3_X3_end : (Cond.selects "MountTable" ({ cls := "MountTable", name := "end", desc := "(I)I" } : MethodName) ({ cls := "MountTable", name := "end", desc := "(I)I" } : MethodName)) ∈ mt_T := mt_m3 39 rfl rfl
theorem mw_co_X3_end : (Cond.code ({ cls := "MountTable", name := "end", desc := "(I)I" } : MethodName) prog_1_method_14_code (2 : Nat) (Option.some ClassFile.FieldType.int)) ∈ mt_T := mt_m3 40 rfl rfl
theorem mw_ml_X3_183 : (Cond.methodLink "MountTable" (183 : Nat) ({ cls := "MountTable", name := "endOfLinks", desc := "(I)I" } : MethodName)) ∈ mt_T := mt_m3 41 rfl rfl
theorem mw_im_X3_endOfLinks : (Cond.instanceMethod ({ cls := "MountTable", name := "endOfLinks", desc := "(I)I" } : MethodName)) ∈ mt_T := mt_m3 43 rfl rfl
theorem mw_co_X3_endOfLinks : (Cond.code ({ cls := "MountTable", name := "endOfLinks", desc := "(I)I" } : MethodName) prog_1_method_59_code (7 : Nat) (Option.some ClassFile.FieldType.int)) ∈ mt_T := mt_m3 44 rfl rfl
theorem mw_ml_X3_287 : (Cond.methodLink "MountTable" (287 : Nat) ({ cls := "MountTable$Layer", name := "valueAt", desc := "(I)I" } : MethodName)) ∈ mt_T := mt_m3 45 rfl rfl
theorem mw_ml_X3_290 : (Cond.methodLink "MountTable" (290 : Nat) ({ cls := "MountTable", name := "mayLead", desc := "(II)Z" } : MethodName)) ∈ mt_T := mt_m3 46 rfl rfl
theorem mw_im_X3_mayLead : (Cond.instanceMethod ({ cls := "MountTable", name := "mayLead", desc := "(II)Z" } : MethodName)) ∈ mt_T := mt_m3 48 rfl rfl
theorem mw_co_X3_mayLead : (Cond.code ({ cls := "MountTable", name := "mayLead", desc := "(II)Z" } : MethodName) prog_1_method_60_code (4 : Nat) (Option.some ClassFile.FieldType.boolean)) ∈ mt_T := mt_m3 49 rfl rfl
theorem mw_ml_L_156 : (Cond.methodLink "MountTableLaw" (156 : Nat) ({ cls := "MountTableLaw", name := "size", desc := "(LMountTable;I[J)I" } : MethodName)) ∈ mt_T := mt_m3 52 rfl rfl
theorem mw_st_L_size : (Cond.static ({ cls := "MountTableLaw", name := "size", desc := "(LMountTable;I[J)I" } : MethodName)) ∈ mt_T := mt_m3 53 rfl rfl
theorem mw_cw_L_size : (Cond.codeWith ({ cls := "MountTableLaw", name := "size", desc := "(LMountTable;I[J)I" } : MethodName) method_15_code (4 : Nat) (Option.some ClassFile.FieldType.int) [((0 : Nat), (9 : Nat), (12 : Nat), (19 : Nat)), ((0 : Nat), (9 : Nat), (15 : Nat), (23 : Nat)), ((0 : Nat), (9 : Nat), (18 : Nat), (13 : Nat)), ((0 : Nat), (9 : Nat), (21 : Nat), (40 : Nat))]) ∈ mt_T := mt_m3 54 rfl rfl
theorem mw_ml_L_61 : (Cond.methodLink "MountTableLaw" (61 : Nat) ({ cls := "MountTable", name := "size", desc := "(I)I" } : MethodName)) ∈ mt_T := mt_m3 55 rfl rfl
theorem mw_im_X3_size : (Cond.instanceMethod ({ cls := "MountTable", name := "size", desc := "(I)I" } : MethodName)) ∈ mt_T := mt_m3 56 rfl rfl
theorem mw_se_X3_X3_size : (Cond.selects "MountTable" ({ cls := "MountTable", name := "size", desc := "(I)I" } : MethodName) ({ cls := "MountTable", name := "size", desc := "(I)I" } : MethodName)) ∈ mt_T := mt_m3 57 rfl rfl
theorem mw_co_X3_size : (Cond.code ({ cls := "MountTable", name := "size", desc := "(I)I" } : MethodName) prog_1_method_15_code (3 : Nat) (Option.some ClassFile.FieldType.int)) ∈ mt_T := mt_m3 58 rfl rfl
theorem mw_ml_X3_186 : (Cond.methodLink "MountTable" (186 : Nat) ({ cls := "MountTable", name := "shownFileSize", desc := "(I)I" } : MethodName)) ∈ mt_T := mt_m3 59 rfl rfl
theorem mw_im_X3_shownFileSize : (Cond.instanceMethod ({ cls := "MountTable", name := "shownFileSize", desc := "(I)I" } : MethodName)) ∈ mt_T := mt_m3 61 rfl rfl
theorem mw_co_X3_shownFileSize : (Cond.code ({ cls := "MountTable", name := "shownFileSize", desc := "(I)I" } : MethodName) prog_1_method_56_code (2 : Nat) (Option.some ClassFile.FieldType.int)) ∈ mt_T := mt_m3 62 rfl rfl
theorem mw_ml_X3_198 : (Cond.methodLink "MountTable" (198 : Nat) ({ cls := "MountTable", name := "fileSizeIn", desc := "(II)I" } : MethodName)) ∈ mt_T := mt_m3 63 rfl rfl
theorem mw_im_X3_fileSizeIn : (Cond.instanceMethod ({ cls := "MountTable", name := "fileSizeIn", desc := "(II)I" } : MethodName)) ∈ mt_T := mt_m3 65 rfl rfl
theorem mw_co_X3_fileSizeIn : (Cond.code ({ cls := "MountTable", name := "fileSizeIn", desc := "(II)I" } : MethodName) prog_1_method_52_code (4 : Nat) (Option.some ClassFile.FieldType.int)) ∈ mt_T := mt_m3 66 rfl rfl
theorem mw_ml_X3_278 : (Cond.methodLink "MountTable" (278 : Nat) ({ cls := "MountTable$Layer", name := "fileSizeAt", desc := "(I)I" } : MethodName)) ∈ mt_T := mt_m3 67 rfl rfl
theorem mw_im_X1_fileSizeAt : (Cond.instanceMethod ({ cls := "MountTable$Layer", name := "fileSizeAt", desc := "(I)I" } : MethodName)) ∈ mt_T := mt_m3 68 rfl rfl
theorem mw_se_X1_X1_fileSizeAt : (Cond.selects "MountTable$Layer" ({ cls := "MountTable$Layer", name := "fileSizeAt", desc := "(I)I" } : MethodName) ({ cls := "MountTable$Layer", name := "fileSizeAt", desc := "(I)I" } : MethodName)) ∈ mt_T := mt_m3 69 rfl rfl
theorem mw_co_X1_fileSizeAt : (Cond.code ({ cls := "MountTable$Layer", name := "fileSizeAt", desc := "(I)I" } : MethodName) prog_3_method_5_code (2 : Nat) (Option.some ClassFile.FieldType.int)) ∈ mt_T := mt_m3 70 rfl rfl
theorem mw_ml_L_159 : (Cond.methodLink "MountTableLaw" (159 : Nat) ({ cls := "MountTableLaw", name := "sizeByWalking", desc := "(LMountTable;I[J)I" } : MethodName)) ∈ mt_T := mt_m3 72 rfl rfl
theorem mw_st_L_sizeByWalking : (Cond.static ({ cls := "MountTableLaw", name := "sizeByWalking", desc := "(LMountTable;I[J)I" } : MethodName)) ∈ mt_T := mt_m3 73 rfl rfl
theorem mw_cw_L_sizeByWalking : (Cond.codeWith ({ cls := "MountTableLaw", name := "sizeByWalking", desc := "(LMountTable;I[J)I" } : MethodName) method_16_code (4 : Nat) (Option.some ClassFile.FieldType.int) [((0 : Nat), (9 : Nat), (12 : Nat), (19 : Nat))]) ∈ mt_T := mt_m3 74 rfl rfl
theorem mw_ml_L_64 : (Cond.methodLink "MountTableLaw" (64 : Nat) ({ cls := "MountTable", name := "sizeByWalking", desc := "(I)I" } : MethodName)) ∈ mt_T := mt_m3 75 rfl rfl
theorem mw_im_X3_sizeByWalking : (Cond.instanceMethod ({ cls := "MountTable", name := "sizeByWalking", desc := "(I)I" } : MethodName)) ∈ mt_T := mt_m3 76 rfl rfl
theorem mw_se_X3_X3_sizeByWalking : (Cond.selects "MountTable" ({ cls := "MountTable", name := "sizeByWalking", desc := "(I)I" } : MethodName) ({ cls := "MountTable", name := "sizeByWalking", desc := "(I)I" } : MethodName)) ∈ mt_T := mt_m3 77 rfl rfl
theorem mw_co_X3_sizeByWalking : (Cond.code ({ cls := "MountTable", name := "sizeByWalking", desc := "(I)I" } : MethodName) prog_1_method_16_code (6 : Nat) (Option.some ClassFile.FieldType.int)) ∈ mt_T := mt_m3 78 rfl rfl
theorem mw_ml_X3_191 : (Cond.methodLink "MountTable" (191 : Nat) ({ cls := "MountTable", name := "restBehind", desc := "(II)I" } : MethodName)) ∈ mt_T := mt_m3 79 rfl rfl
theorem mw_st_X3_restBehind : (Cond.static ({ cls := "MountTable", name := "restBehind", desc := "(II)I" } : MethodName)) ∈ mt_T := mt_m3 80 rfl rfl
theorem mw_co_X3_restBehind : (Cond.code ({ cls := "MountTable", name := "restBehind", desc := "(II)I" } : MethodName) prog_1_method_32_code (4 : Nat) (Option.some ClassFile.FieldType.int)) ∈ mt_T := mt_m3 81 rfl rfl
theorem mw_ml_L_162 : (Cond.methodLink "MountTableLaw" (162 : Nat) ({ cls := "MountTableLaw", name := "ownerOf", desc := "(LMountTable;I[J)I" } : MethodName)) ∈ mt_T := mt_m3 82 rfl rfl
theorem mw_st_L_ownerOf : (Cond.static ({ cls := "MountTableLaw", name := "ownerOf", desc := "(LMountTable;I[J)I" } : MethodName)) ∈ mt_T := mt_m3 83 rfl rfl
theorem mw_cw_L_ownerOf : (Cond.codeWith ({ cls := "MountTableLaw", name := "ownerOf", desc := "(LMountTable;I[J)I" } : MethodName) method_17_code (4 : Nat) (Option.some ClassFile.FieldType.int) [((0 : Nat), (9 : Nat), (12 : Nat), (19 : Nat)), ((0 : Nat), (9 : Nat), (15 : Nat), (40 : Nat))]) ∈ mt_T := mt_m3 84 rfl rfl
theorem mw_ml_L_67 : (Cond.methodLink "MountTableLaw" (67 : Nat) ({ cls := "MountTable", name := "ownerOf", desc := "(I)I" } : MethodName)) ∈ mt_T := mt_m3 85 rfl rfl
theorem mw_im_X3_ownerOf : (Cond.instanceMethod ({ cls := "MountTable", name := "ownerOf", desc := "(I)I" } : MethodName)) ∈ mt_T := mt_m3 86 rfl rfl
theorem mw_se_X3_X3_ownerOf : (Cond.selects "MountTable" ({ cls := "MountTable", name := "ownerOf", desc := "(I)I" } : MethodName) ({ cls := "MountTable", name := "ownerOf", desc := "(I)I" } : MethodName)) ∈ mt_T := mt_m3 87 rfl rfl
theorem mw_co_X3_ownerOf : (Cond.code ({ cls := "MountTable", name := "ownerOf", desc := "(I)I" } : MethodName) prog_1_method_17_code (3 : Nat) (Option.some ClassFile.FieldType.int)) ∈ mt_T := mt_m3 88 rfl rfl
theorem mw_ml_L_165 : (Cond.methodLink "MountTableLaw" (165 : Nat) ({ cls := "MountTableLaw", name := "setQuota", desc := "(LMountTable;II[J)I" } : MethodName)) ∈ mt_T := mt_m3 89 rfl rfl
theorem mw_st_L_setQuota : (Cond.static ({ cls := "MountTableLaw", name := "setQuota", desc := "(LMountTable;II[J)I" } : MethodName)) ∈ mt_T := mt_m3 90 rfl rfl
theorem mw_cw_L_setQuota : (Cond.codeWith ({ cls := "MountTableLaw", name := "setQuota", desc := "(LMountTable;II[J)I" } : MethodName) method_18_code (5 : Nat) (Option.some ClassFile.FieldType.int) [((0 : Nat), (10 : Nat), (13 : Nat), (19 : Nat))]) ∈ mt_T := mt_m3 91 rfl rfl
theorem mw_ml_L_70 : (Cond.methodLink "MountTableLaw" (70 : Nat) ({ cls := "MountTable", name := "setQuota", desc := "(II)I" } : MethodName)) ∈ mt_T := mt_m3 92 rfl rfl
theorem mw_im_X3_setQuota : (Cond.instanceMethod ({ cls := "MountTable", name := "setQuota", desc := "(II)I" } : MethodName)) ∈ mt_T := mt_m3 93 rfl rfl
theorem mw_se_X3_X3_setQuota : (Cond.selects "MountTable" ({ cls := "MountTable", name := "setQuota", desc := "(II)I" } : MethodName) ({ cls := "MountTable", name := "setQuota", desc := "(II)I" } : MethodName)) ∈ mt_T := mt_m3 94 rfl rfl
theorem mw_co_X3_setQuota : (Cond.code ({ cls := "MountTable", name := "setQuota", desc := "(II)I" } : MethodName) prog_1_method_18_code (4 : Nat) (Option.some ClassFile.FieldType.int)) ∈ mt_T := mt_m3 95 rfl rfl
theorem mw_cn_X3_204 : (Cond.constant "MountTable" (204 : Nat) (99999 : Int32)) ∈ mt_T := mt_m3 96 rfl rfl
theorem mw_ml_L_168 : (Cond.methodLink "MountTableLaw" (168 : Nat) ({ cls := "MountTableLaw", name := "used", desc := "(LMountTable;I[J)I" } : MethodName)) ∈ mt_T := mt_m3 98 rfl rfl
theorem mw_st_L_used : (Cond.static ({ cls := "MountTableLaw", name := "used", desc := "(LMountTable;I[J)I" } : MethodName)) ∈ mt_T := mt_m3 99 rfl rfl
theorem mw_cw_L_used : (Cond.codeWith ({ cls := "MountTableLaw", name := "used", desc := "(LMountTable;I[J)I" } : MethodName) method_19_code (4 : Nat) (Option.some ClassFile.FieldType.int) [((0 : Nat), (9 : Nat), (12 : Nat), (19 : Nat))]) ∈ mt_T := mt_m3 100 rfl rfl
theorem mw_ml_L_73 : (Cond.methodLink "MountTableLaw" (73 : Nat) ({ cls := "MountTable", name := "used", desc := "(I)I" } : MethodName)) ∈ mt_T := mt_m3 101 rfl rfl
theorem mw_im_X3_used : (Cond.instanceMethod ({ cls := "MountTable", name := "used", desc := "(I)I" } : MethodName)) ∈ mt_T := mt_m3 102 rfl rfl
theorem mw_se_X3_X3_used : (Cond.selects "MountTable" ({ cls := "MountTable", name := "used", desc := "(I)I" } : MethodName) ({ cls := "MountTable", name := "used", desc := "(I)I" } : MethodName)) ∈ mt_T := mt_m3 103 rfl rfl
theorem mw_co_X3_used : (Cond.code ({ cls := "MountTable", name := "used", desc := "(I)I" } : MethodName) prog_1_method_19_code (2 : Nat) (Option.some ClassFile.FieldType.int)) ∈ mt_T := mt_m3 104 rfl rfl
theorem mw_ml_L_171 : (Cond.methodLink "MountTableLaw" (171 : Nat) ({ cls := "MountTableLaw", name := "usedByLayers", desc := "(LMountTable;I[J)I" } : MethodName)) ∈ mt_T := mt_m3 105 rfl rfl
theorem mw_st_L_usedByLayers : (Cond.static ({ cls := "MountTableLaw", name := "usedByLayers", desc := "(LMountTable;I[J)I" } : MethodName)) ∈ mt_T := mt_m3 106 rfl rfl
theorem mw_cw_L_usedByLayers : (Cond.codeWith ({ cls := "MountTableLaw", name := "usedByLayers", desc := "(LMountTable;I[J)I" } : MethodName) method_20_code (4 : Nat) (Option.some ClassFile.FieldType.int) [((0 : Nat), (9 : Nat), (12 : Nat), (19 : Nat))]) ∈ mt_T := mt_m3 107 rfl rfl
theorem mw_ml_L_76 : (Cond.methodLink "MountTableLaw" (76 : Nat) ({ cls := "MountTable", name := "usedByLayers", desc := "(I)I" } : MethodName)) ∈ mt_T := mt_m3 108 rfl rfl
theorem mw_im_X3_usedByLayers : (Cond.instanceMethod ({ cls := "MountTable", name := "usedByLayers", desc := "(I)I" } : MethodName)) ∈ mt_T := mt_m3 109 rfl rfl
theorem mw_se_X3_X3_usedByLayers : (Cond.selects "MountTable" ({ cls := "MountTable", name := "usedByLayers", desc := "(I)I" } : MethodName) ({ cls := "MountTable", name := "usedByLayers", desc := "(I)I" } : MethodName)) ∈ mt_T := mt_m3 110 rfl rfl
theorem mw_co_X3_usedByLayers : (Cond.code ({ cls := "MountTable", name := "usedByLayers", desc := "(I)I" } : MethodName) prog_1_method_20_code (5 : Nat) (Option.some ClassFile.FieldType.int)) ∈ mt_T := mt_m3 111 rfl rfl
theorem mw_ml_X3_210 : (Cond.methodLink "MountTable" (210 : Nat) ({ cls := "MountTable$Layer", name := "bytesOfOwner", desc := "(I)I" } : MethodName)) ∈ mt_T := mt_m3 112 rfl rfl
theorem mw_im_X1_bytesOfOwner : (Cond.instanceMethod ({ cls := "MountTable$Layer", name := "bytesOfOwner", desc := "(I)I" } : MethodName)) ∈ mt_T := mt_m3 113 rfl rfl
theorem mw_se_X1_X1_bytesOfOwner : (Cond.selects "MountTable$Layer" ({ cls := "MountTable$Layer", name := "bytesOfOwner", desc := "(I)I" } : MethodName) ({ cls := "MountTable$Layer", name := "bytesOfOwner", desc := "(I)I" } : MethodName)) ∈ mt_T := mt_m3 114 rfl rfl
theorem mw_co_X1_bytesOfOwner : (Cond.code ({ cls := "MountTable$Layer", name := "bytesOfOwner", desc := "(I)I" } : MethodName) prog_3_method_10_code (4 : Nat) (Option.some ClassFile.FieldType.int)) ∈ mt_T := mt_m3 115 rfl rfl
theorem mw_ml_X1_42 : (Cond.methodLink "MountTable$Layer" (42 : Nat) ({ cls := "MountTable$Layer", name := "bytesOfOwnerAt", desc := "(II)I" } : MethodName)) ∈ mt_T := mt_m3 116 rfl rfl
theorem mw_ml_L_182 : (Cond.methodLink "MountTableLaw" (182 : Nat) ({ cls := "MountTableLaw", name := "whiteouts", desc := "(LMountTable;I[J)I" } : MethodName)) ∈ mt_T := mt_m3 117 rfl rfl
theorem mw_st_L_whiteouts : (Cond.static ({ cls := "MountTableLaw", name := "whiteouts", desc := "(LMountTable;I[J)I" } : MethodName)) ∈ mt_T := mt_m3 118 rfl rfl
theorem mw_cw_L_whiteouts : (Cond.codeWith ({ cls := "MountTableLaw", name := "whiteouts", desc := "(LMountTable;I[J)I" } : MethodName) method_21_code (4 : Nat) (Option.some ClassFile.FieldType.int) [((0 : Nat), (9 : Nat), (12 : Nat), (21 : Nat))]) ∈ mt_T := mt_m3 119 rfl rfl
theorem mw_ml_L_79 : (Cond.methodLink "MountTableLaw" (79 : Nat) ({ cls := "MountTable", name := "whiteouts", desc := "(I)I" } : MethodName)) ∈ mt_T := mt_m3 120 rfl rfl
theorem mw_im_X3_whiteouts : (Cond.instanceMethod ({ cls := "MountTable", name := "whiteouts", desc := "(I)I" } : MethodName)) ∈ mt_T := mt_m3 121 rfl rfl
theorem mw_se_X3_X3_whiteouts : (Cond.selects "MountTable" ({ cls := "MountTable", name := "whiteouts", desc := "(I)I" } : MethodName) ({ cls := "MountTable", name := "whiteouts", desc := "(I)I" } : MethodName)) ∈ mt_T := mt_m3 122 rfl rfl
theorem mw_co_X3_whiteouts : (Cond.code ({ cls := "MountTable", name := "whiteouts", desc := "(I)I" } : MethodName) prog_1_method_23_code (2 : Nat) (Option.some ClassFile.FieldType.int)) ∈ mt_T := mt_m3 123 rfl rfl
theorem mw_ml_X3_222 : (Cond.methodLink "MountTable" (222 : Nat) ({ cls := "MountTable", name := "checkedLayer", desc := "(I)LMountTable$Layer;" } : MethodName)) ∈ mt_T := mt_m3 124 rfl rfl
theorem mw_im_X3_checkedLayer : (Cond.instanceMethod ({ cls := "MountTable", name := "checkedLayer", desc := "(I)LMountTable$Layer;" } : MethodName)) ∈ mt_T := mt_m3 126 rfl rfl
theorem mw_co_X3_checkedLayer : (Cond.code ({ cls := "MountTable", name := "checkedLayer", desc := "(I)LMountTable$Layer;" } : MethodName) prog_1_method_40_code (3 : Nat) (Option.some (ClassFile.FieldType.object "MountTable$Layer"))) ∈ mt_T := mt_m3 127 rfl rfl
theorem mw_ml_L_185 : (Cond.methodLink "MountTableLaw" (185 : Nat) ({ cls := "MountTableLaw", name := "backUp", desc := "(LMountTable;Z[J)I" } : MethodName)) ∈ mt_T := mt_m3 128 rfl rfl
theorem mw_st_L_backUp : (Cond.static ({ cls := "MountTableLaw", name := "backUp", desc := "(LMountTable;Z[J)I" } : MethodName)) ∈ mt_T := mt_m3 129 rfl rfl
theorem mw_cw_L_backUp : (Cond.codeWith ({ cls := "MountTableLaw", name := "backUp", desc := "(LMountTable;Z[J)I" } : MethodName) method_22_code (4 : Nat) (Option.some ClassFile.FieldType.int) [((0 : Nat), (9 : Nat), (12 : Nat), (13 : Nat))]) ∈ mt_T := mt_m3 130 rfl rfl
theorem mw_ml_L_82 : (Cond.methodLink "MountTableLaw" (82 : Nat) ({ cls := "MountTable", name := "backUp", desc := "(Z)I" } : MethodName)) ∈ mt_T := mt_m3 131 rfl rfl
theorem mw_im_X3_backUp : (Cond.instanceMethod ({ cls := "MountTable", name := "backUp", desc := "(Z)I" } : MethodName)) ∈ mt_T := mt_m3 132 rfl rfl
theorem mw_se_X3_X3_backUp : (Cond.selects "MountTable" ({ cls := "MountTable", name := "backUp", desc := "(Z)I" } : MethodName) ({ cls := "MountTable", name := "backUp", desc := "(Z)I" } : MethodName)) ∈ mt_T := mt_m3 133 rfl rfl
theorem mw_co_X3_backUp : (Cond.code ({ cls := "MountTable", name := "backUp", desc := "(Z)I" } : MethodName) prog_1_method_24_code (4 : Nat) (Option.some ClassFile.FieldType.int)) ∈ mt_T := mt_m3 134 rfl rfl
theorem mw_ii_X0 : (Cond.instantiable "MountTable$Backup" (2 : Nat)) ∈ mt_T := mt_m3 136 rfl rfl
theorem mw_ml_X3_230 : (Cond.methodLink "MountTable" (230 : Nat) ({ cls := "MountTable$Backup", name := "<init>", desc := "(Z)V" } : MethodName)) ∈ mt_T := mt_m3 137 rfl rfl
theorem mw_im_X0_init : (Cond.instanceMethod ({ cls := "MountTable$Backup", name := "<init>", desc := "(Z)V" } : MethodName)) ∈ mt_T := mt_m3 138 rfl rfl
theorem mw_co_X0_init : (Cond.code ({ cls := "MountTable$Backup", name := "<init>", desc := "(Z)V" } : MethodName) prog_2_method_1_code (2 : Nat) (Option.none : Option ClassFile.FieldType)) ∈ mt_T := mt_m3 139 rfl rfl
theorem mw_ml_X0_3 : (Cond.methodLink "MountTable$Backup" (3 : Nat) ({ cls := "java/lang/Object", name := "<init>", desc := "()V" } : MethodName)) ∈ mt_T := mt_m3 140 rfl rfl
theorem mw_fl_X0_9 : (Cond.fieldLink "MountTable$Backup" (9 : Nat) "MountTable$Backup" "isOfSeen" "Z") ∈ mt_T := mt_m3 141 rfl rfl
theorem mw_fn_X3_247 : (Cond.fieldLinkNest "MountTable" (247 : Nat) "MountTable$Backup" "isOfSeen" "Z" "MountTable") ∈ mt_bw := mt_b3 142 rfl rfl
theorem mw_fl_X0_15 : (Cond.fieldLink "MountTable$Backup" (15 : Nat) "MountTable$Backup" "sizes" "[I") ∈ mt_T := mt_m3 143 rfl rfl
theorem mw_fn_X3_233 : (Cond.fieldLinkNest "MountTable" (233 : Nat) "MountTable$Backup" "sizes" "[I" "MountTable") ∈ mt_bw := mt_b3 144 rfl rfl
theorem mw_la_X0_X0_isOfSeen : (Cond.laysFinal "MountTable$Backup" "MountTable$Backup" "isOfSeen" "Z") ∈ mt_T := mt_m3 145 rfl rfl
theorem mw_la_X0_X0_sizes : (Cond.laysFinal "MountTable$Backup" "MountTable$Backup" "sizes" "[I") ∈ mt_T := mt_m3 147 rfl rfl
theorem mw_ml_X3_236 : (Cond.methodLink "MountTable" (236 : Nat) ({ cls := "MountTable", name := "sizeNow", desc := "(ZI)I" } : MethodName)) ∈ mt_T := mt_m3 150 rfl rfl
theorem mw_im_X3_sizeNow : (Cond.instanceMethod ({ cls := "MountTable", name := "sizeNow", desc := "(ZI)I" } : MethodName)) ∈ mt_T := mt_m3 152 rfl rfl
theorem mw_co_X3_sizeNow : (Cond.code ({ cls := "MountTable", name := "sizeNow", desc := "(ZI)I" } : MethodName) prog_1_method_58_code (3 : Nat) (Option.some ClassFile.FieldType.int)) ∈ mt_T := mt_m3 153 rfl rfl
theorem mw_ml_L_189 : (Cond.methodLink "MountTableLaw" (189 : Nat) ({ cls := "MountTableLaw", name := "bytes", desc := "(LMountTable;I[J)I" } : MethodName)) ∈ mt_T := mt_m3 154 rfl rfl
theorem mw_st_L_bytes : (Cond.static ({ cls := "MountTableLaw", name := "bytes", desc := "(LMountTable;I[J)I" } : MethodName)) ∈ mt_T := mt_m3 155 rfl rfl
theorem mw_cw_L_bytes : (Cond.codeWith ({ cls := "MountTableLaw", name := "bytes", desc := "(LMountTable;I[J)I" } : MethodName) method_23_code (4 : Nat) (Option.some ClassFile.FieldType.int) [((0 : Nat), (9 : Nat), (12 : Nat), (21 : Nat))]) ∈ mt_T := mt_m3 156 rfl rfl
theorem mw_ml_L_86 : (Cond.methodLink "MountTableLaw" (86 : Nat) ({ cls := "MountTable", name := "bytes", desc := "(I)I" } : MethodName)) ∈ mt_T := mt_m3 157 rfl rfl
theorem mw_im_X3_bytes : (Cond.instanceMethod ({ cls := "MountTable", name := "bytes", desc := "(I)I" } : MethodName)) ∈ mt_T := mt_m3 158 rfl rfl
theorem mw_se_X3_X3_bytes : (Cond.selects "MountTable" ({ cls := "MountTable", name := "bytes", desc := "(I)I" } : MethodName) ({ cls := "MountTable", name := "bytes", desc := "(I)I" } : MethodName)) ∈ mt_T := mt_m3 159 rfl rfl
theorem mw_co_X3_bytes : (Cond.code ({ cls := "MountTable", name := "bytes", desc := "(I)I" } : MethodName) prog_1_method_25_code (2 : Nat) (Option.some ClassFile.FieldType.int)) ∈ mt_T := mt_m3 160 rfl rfl
theorem mw_ml_X3_240 : (Cond.methodLink "MountTable" (240 : Nat) ({ cls := "MountTable", name := "checkedBackup", desc := "(I)LMountTable$Backup;" } : MethodName)) ∈ mt_T := mt_m3 161 rfl rfl
theorem mw_im_X3_checkedBackup : (Cond.instanceMethod ({ cls := "MountTable", name := "checkedBackup", desc := "(I)LMountTable$Backup;" } : MethodName)) ∈ mt_T := mt_m3 163 rfl rfl
theorem mw_co_X3_checkedBackup : (Cond.code ({ cls := "MountTable", name := "checkedBackup", desc := "(I)LMountTable$Backup;" } : MethodName) prog_1_method_43_code (3 : Nat) (Option.some (ClassFile.FieldType.object "MountTable$Backup"))) ∈ mt_T := mt_m3 164 rfl rfl
theorem mw_ml_X3_244 : (Cond.methodLink "MountTable" (244 : Nat) ({ cls := "MountTable$Backup", name := "sum", desc := "()I" } : MethodName)) ∈ mt_T := mt_m3 166 rfl rfl
theorem mw_im_X0_sum : (Cond.instanceMethod ({ cls := "MountTable$Backup", name := "sum", desc := "()I" } : MethodName)) ∈ mt_T := mt_m3 167 rfl rfl
theorem mw_se_X0_X0_sum : (Cond.selects "MountTable$Backup" ({ cls := "MountTable$Backup", name := "sum", desc := "()I" } : MethodName) ({ cls := "MountTable$Backup", name := "sum", desc := "()I" } : MethodName)) ∈ mt_T := mt_m3 168 rfl rfl
theorem mw_co_X0_sum : (Cond.code ({ cls := "MountTable$Backup", name := "sum", desc := "()I" } : MethodName) prog_2_method_2_code (3 : Nat) (Option.some ClassFile.FieldType.int)) ∈ mt_T := mt_m3 169 rfl rfl
theorem mw_ml_L_192 : (Cond.methodLink "MountTableLaw" (192 : Nat) ({ cls := "MountTableLaw", name := "differences", desc := "(LMountTable;I[J)I" } : MethodName)) ∈ mt_T := mt_m3 170 rfl rfl
theorem mw_st_L_differences : (Cond.static ({ cls := "MountTableLaw", name := "differences", desc := "(LMountTable;I[J)I" } : MethodName)) ∈ mt_T := mt_m3 171 rfl rfl
theorem mw_cw_L_differences : (Cond.codeWith ({ cls := "MountTableLaw", name := "differences", desc := "(LMountTable;I[J)I" } : MethodName) method_24_code (4 : Nat) (Option.some ClassFile.FieldType.int) [((0 : Nat), (9 : Nat), (12 : Nat), (21 : Nat))]) ∈ mt_T := mt_m3 172 rfl rfl
theorem mw_ml_L_89 : (Cond.methodLink "MountTableLaw" (89 : Nat) ({ cls := "MountTable", name := "differences", desc := "(I)I" } : MethodName)) ∈ mt_T := mt_m3 173 rfl rfl
theorem mw_im_X3_differences : (Cond.instanceMethod ({ cls := "MountTable", name := "differences", desc := "(I)I" } : MethodName)) ∈ mt_T := mt_m3 174 rfl rfl
theorem mw_se_X3_X3_differences : (Cond.selects "MountTable" ({ cls := "MountTable", name := "differences", desc := "(I)I" } : MethodName) ({ cls := "MountTable", name := "differences", desc := "(I)I" } : MethodName)) ∈ mt_T := mt_m3 175 rfl rfl
theorem mw_co_X3_differences : (Cond.code ({ cls := "MountTable", name := "differences", desc := "(I)I" } : MethodName) prog_1_method_26_code (5 : Nat) (Option.some ClassFile.FieldType.int)) ∈ mt_T := mt_m3 176 rfl rfl
theorem mw_ml_L_195 : (Cond.methodLink "MountTableLaw" (195 : Nat) ({ cls := "MountTableLaw", name := "shownShare", desc := "(LMountTable;[D)I" } : MethodName)) ∈ mt_T := mt_m3 177 rfl rfl
theorem mw_st_L_shownShare : (Cond.static ({ cls := "MountTableLaw", name := "shownShare", desc := "(LMountTable;[D)I" } : MethodName)) ∈ mt_T := mt_m3 178 rfl rfl
theorem mw_cw_L_shownShare : (Cond.codeWith ({ cls := "MountTableLaw", name := "shownShare", desc := "(LMountTable;[D)I" } : MethodName) method_25_code (3 : Nat) (Option.some ClassFile.FieldType.int) [((0 : Nat), (8 : Nat), (11 : Nat), (96 : Nat))]) ∈ mt_T := mt_m3 179 rfl rfl
theorem mw_cl_L_96 : (Cond.classLink "MountTableLaw" (96 : Nat) "java/lang/ArithmeticException") ∈ mt_T := mt_m3 180 rfl rfl
theorem mw_ii_java_lang_ArithmeticException : (Cond.instantiable "java/lang/ArithmeticException" (6 : Nat)) ∈ mt_T := mt_m3 181 rfl rfl
theorem mw_im_java_lang_ArithmeticException__init__Ljava_lang_String__V : (Cond.instanceMethod ({ cls := "java/lang/ArithmeticException", name := "<init>", desc := "(Ljava/lang/String;)V" } : MethodName)) ∈ mt_T := mt_m3 182 rfl rfl
theorem mw_co_java_lang_ArithmeticException__init__Ljava_lang_String__V : (Cond.code ({ cls := "java/lang/ArithmeticException", name := "<init>", desc := "(Ljava/lang/String;)V" } : MethodName) prog_7_method_2_code (2 : Nat) (Option.none : Option ClassFile.FieldType)) ∈ mt_T := mt_m3 183 rfl rfl
theorem mw_ml_java_lang_ArithmeticException_7 : (Cond.methodLink "java/lang/ArithmeticException" (7 : Nat) ({ cls := "java/lang/RuntimeException", name := "<init>", desc := "(Ljava/lang/String;)V" } : MethodName)) ∈ mt_T := mt_m3 184 rfl rfl
theorem mw_la_java_lang_ArithmeticException_java_lang_Throwable_backtrace : (Cond.lays "java/lang/ArithmeticException" "java/lang/Throwable" "backtrace" "Ljava/lang/Object;") ∈ mt_T := mt_m3 185 rfl rfl
theorem mw_la_java_lang_ArithmeticException_java_lang_Throwable_detailMessage : (Cond.lays "java/lang/ArithmeticException" "java/lang/Throwable" "detailMessage" "Ljava/lang/String;") ∈ mt_T := mt_m3 186 rfl rfl
theorem mw_la_java_lang_ArithmeticException_java_lang_Throwable_cause : (Cond.lays "java/lang/ArithmeticException" "java/lang/Throwable" "cause" "Ljava/lang/Throwable;") ∈ mt_T := mt_m3 187 rfl rfl
theorem mw_la_java_lang_ArithmeticException_java_lang_Throwable_stackTrace : (Cond.lays "java/lang/ArithmeticException" "java/lang/Throwable" "stackTrace" "[Ljava/lang/StackTraceElement;") ∈ mt_T := mt_m3 188 rfl rfl
theorem mw_la_java_lang_ArithmeticException_java_lang_Throwable_depth : (Cond.lays "java/lang/ArithmeticException" "java/lang/Throwable" "depth" "I") ∈ mt_T := mt_m3 189 rfl rfl
theorem mw_la_java_lang_ArithmeticException_java_lang_Throwable_suppressedExceptions : (Cond.lays "java/lang/ArithmeticException" "java/lang/Throwable" "suppressedExceptions" "Ljava/util/List;") ∈ mt_T := mt_m3 190 rfl rfl
theorem mw_ca_java_lang_ArithmeticException_java_lang_ArithmeticException : (Cond.castable "java/lang/ArithmeticException" "java/lang/ArithmeticException") ∈ mt_bw := mt_b3 192 rfl rfl
theorem mw_se_java_lang_ArithmeticException_java_lang_Throwable_fillInStackTrace_I_Ljava_lang_Throwable_ : (Cond.selects "java/lang/ArithmeticException" ({ cls := "java/lang/Throwable", name := "fillInStackTrace", desc := "(I)Ljava/lang/Throwable;" } : MethodName) ({ cls := "java/lang/Throwable", name := "fillInStackTrace", desc := "(I)Ljava/lang/Throwable;" } : MethodName)) ∈ mt_T := mt_m3 193 rfl rfl
theorem mw_ml_L_92 : (Cond.methodLink "MountTableLaw" (92 : Nat) ({ cls := "MountTable", name := "shownShare", desc := "()F" } : MethodName)) ∈ mt_T := mt_m3 194 rfl rfl
theorem mw_im_X3_shownShare : (Cond.instanceMethod ({ cls := "MountTable", name := "shownShare", desc := "()F" } : MethodName)) ∈ mt_T := mt_m3 195 rfl rfl
theorem mw_se_X3_X3_shownShare : (Cond.selects "MountTable" ({ cls := "MountTable", name := "shownShare", desc := "()F" } : MethodName) ({ cls := "MountTable", name := "shownShare", desc := "()F" } : MethodName)) ∈ mt_T := mt_m3 196 rfl rfl
theorem mw_co_X3_shownShare : (Cond.code ({ cls := "MountTable", name := "shownShare", desc := "()F" } : MethodName) prog_1_method_27_code (2 : Nat) (Option.some ClassFile.FieldType.float)) ∈ mt_T := mt_m3 197 rfl rfl
theorem mw_cl_X3_250 : (Cond.classLink "MountTable" (250 : Nat) "java/lang/ArithmeticException") ∈ mt_T := mt_m3 198 rfl rfl
theorem mw_ml_X3_254 : (Cond.methodLink "MountTable" (254 : Nat) ({ cls := "java/lang/ArithmeticException", name := "<init>", desc := "(Ljava/lang/String;)V" } : MethodName)) ∈ mt_T := mt_m3 200 rfl rfl
theorem mw_ml_L_199 : (Cond.methodLink "MountTableLaw" (199 : Nat) ({ cls := "MountTableLaw", name := "meanSize", desc := "(LMountTable;I[D)I" } : MethodName)) ∈ mt_T := mt_m3 201 rfl rfl
theorem mw_st_L_meanSize : (Cond.static ({ cls := "MountTableLaw", name := "meanSize", desc := "(LMountTable;I[D)I" } : MethodName)) ∈ mt_T := mt_m3 202 rfl rfl
theorem mw_cw_L_meanSize : (Cond.codeWith ({ cls := "MountTableLaw", name := "meanSize", desc := "(LMountTable;I[D)I" } : MethodName) method_26_code (4 : Nat) (Option.some ClassFile.FieldType.int) [((0 : Nat), (8 : Nat), (11 : Nat), (21 : Nat)), ((0 : Nat), (8 : Nat), (14 : Nat), (96 : Nat))]) ∈ mt_T := mt_m3 203 rfl rfl
theorem mw_ml_L_98 : (Cond.methodLink "MountTableLaw" (98 : Nat) ({ cls := "MountTable", name := "meanSize", desc := "(I)D" } : MethodName)) ∈ mt_T := mt_m3 204 rfl rfl
theorem mw_im_X3_meanSize : (Cond.instanceMethod ({ cls := "MountTable", name := "meanSize", desc := "(I)D" } : MethodName)) ∈ mt_T := mt_m3 205 rfl rfl
theorem mw_se_X3_X3_meanSize : (Cond.selects "MountTable" ({ cls := "MountTable", name := "meanSize", desc := "(I)D" } : MethodName) ({ cls := "MountTable", name := "meanSize", desc := "(I)D" } : MethodName)) ∈ mt_T := mt_m3 206 rfl rfl
theorem mw_co_X3_meanSize : (Cond.code ({ cls := "MountTable", name := "meanSize", desc := "(I)D" } : MethodName) prog_1_method_28_code (4 : Nat) (Option.some ClassFile.FieldType.double)) ∈ mt_T := mt_m3 207 rfl rfl
theorem mw_ml_X3_257 : (Cond.methodLink "MountTable" (257 : Nat) ({ cls := "MountTable$Layer", name := "allBytesOfFiles", desc := "()I" } : MethodName)) ∈ mt_T := mt_m3 209 rfl rfl
theorem mw_im_X1_allBytesOfFiles : (Cond.instanceMethod ({ cls := "MountTable$Layer", name := "allBytesOfFiles", desc := "()I" } : MethodName)) ∈ mt_T := mt_m3 210 rfl rfl
theorem mw_se_X1_X1_allBytesOfFiles : (Cond.selects "MountTable$Layer" ({ cls := "MountTable$Layer", name := "allBytesOfFiles", desc := "()I" } : MethodName) ({ cls := "MountTable$Layer", name := "allBytesOfFiles", desc := "()I" } : MethodName)) ∈ mt_T := mt_m3 211 rfl rfl
theorem mw_co_X1_allBytesOfFiles : (Cond.code ({ cls := "MountTable$Layer", name := "allBytesOfFiles", desc := "()I" } : MethodName) prog_3_method_11_code (3 : Nat) (Option.some ClassFile.FieldType.int)) ∈ mt_T := mt_m3 212 rfl rfl
theorem mw_cl_L_103 : (Cond.classLink "MountTableLaw" (103 : Nat) "MountTableModel") ∈ mt_T := mt_m3 213 rfl rfl
theorem mw_ii_X4 : (Cond.instantiable "MountTableModel" (16 : Nat)) ∈ mt_T := mt_m3 214 rfl rfl
theorem mw_ml_L_105 : (Cond.methodLink "MountTableLaw" (105 : Nat) ({ cls := "MountTableModel", name := "<init>", desc := "()V" } : MethodName)) ∈ mt_T := mt_m3 215 rfl rfl
theorem mw_im_X4_init : (Cond.instanceMethod ({ cls := "MountTableModel", name := "<init>", desc := "()V" } : MethodName)) ∈ mt_T := mt_m3 216 rfl rfl
theorem mw_co_X4_init : (Cond.code ({ cls := "MountTableModel", name := "<init>", desc := "()V" } : MethodName) prog_6_method_1_code (2 : Nat) (Option.none : Option ClassFile.FieldType)) ∈ mt_T := mt_m3 217 rfl rfl
theorem mw_ml_X4_1 : (Cond.methodLink "MountTableModel" (1 : Nat) ({ cls := "java/lang/Object", name := "<init>", desc := "()V" } : MethodName)) ∈ mt_T := mt_m3 218 rfl rfl
theorem mw_fl_X4_7 : (Cond.fieldLink "MountTableModel" (7 : Nat) "MountTableModel" "kinds" "[I") ∈ mt_T := mt_m3 219 rfl rfl
theorem mw_fl_X4_13 : (Cond.fieldLink "MountTableModel" (13 : Nat) "MountTableModel" "owners" "[I") ∈ mt_T := mt_m3 220 rfl rfl
theorem mw_fl_X4_16 : (Cond.fieldLink "MountTableModel" (16 : Nat) "MountTableModel" "values" "[I") ∈ mt_T := mt_m3 221 rfl rfl
theorem mw_fl_X4_64 : (Cond.fieldLink "MountTableModel" (64 : Nat) "MountTableModel" "layers" "I") ∈ mt_T := mt_m3 222 rfl rfl
theorem mw_fl_X4_19 : (Cond.fieldLink "MountTableModel" (19 : Nat) "MountTableModel" "points" "[I") ∈ mt_T := mt_m3 223 rfl rfl
theorem mw_fl_X4_22 : (Cond.fieldLink "MountTableModel" (22 : Nat) "MountTableModel" "lowers" "[I") ∈ mt_T := mt_m3 224 rfl rfl
theorem mw_fl_X4_25 : (Cond.fieldLink "MountTableModel" (25 : Nat) "MountTableModel" "uppers" "[I") ∈ mt_T := mt_m3 225 rfl rfl
theorem mw_fl_X4_28 : (Cond.fieldLink "MountTableModel" (28 : Nat) "MountTableModel" "isThere" "[Z") ∈ mt_T := mt_m3 226 rfl rfl
theorem mw_fl_X4_32 : (Cond.fieldLink "MountTableModel" (32 : Nat) "MountTableModel" "isCrossing" "[Z") ∈ mt_T := mt_m3 227 rfl rfl
theorem mw_fl_X4_67 : (Cond.fieldLink "MountTableModel" (67 : Nat) "MountTableModel" "mounts" "I") ∈ mt_T := mt_m3 228 rfl rfl
theorem mw_fl_X4_35 : (Cond.fieldLink "MountTableModel" (35 : Nat) "MountTableModel" "quotas" "[I") ∈ mt_T := mt_m3 229 rfl rfl
theorem mw_fl_X4_110 : (Cond.fieldLink "MountTableModel" (110 : Nat) "MountTableModel" "copies" "I") ∈ mt_T := mt_m3 230 rfl rfl
theorem mw_fl_X4_38 : (Cond.fieldLink "MountTableModel" (38 : Nat) "MountTableModel" "kept" "[I") ∈ mt_T := mt_m3 231 rfl rfl
theorem mw_fl_X4_41 : (Cond.fieldLink "MountTableModel" (41 : Nat) "MountTableModel" "isSeen" "[Z") ∈ mt_T := mt_m3 232 rfl rfl
theorem mw_fl_X4_151 : (Cond.fieldLink "MountTableModel" (151 : Nat) "MountTableModel" "backups" "I") ∈ mt_T := mt_m3 233 rfl rfl
theorem mw_fl_X4_44 : (Cond.fieldLink "MountTableModel" (44 : Nat) "MountTableModel" "thrown" "I") ∈ mt_T := mt_m3 234 rfl rfl
theorem mw_la_X4_X4_kinds : (Cond.laysFinal "MountTableModel" "MountTableModel" "kinds" "[I") ∈ mt_T := mt_m3 235 rfl rfl
theorem mw_la_X4_X4_owners : (Cond.laysFinal "MountTableModel" "MountTableModel" "owners" "[I") ∈ mt_T := mt_m3 237 rfl rfl
theorem mw_la_X4_X4_values : (Cond.laysFinal "MountTableModel" "MountTableModel" "values" "[I") ∈ mt_T := mt_m3 239 rfl rfl
theorem mw_la_X4_X4_layers : (Cond.lays "MountTableModel" "MountTableModel" "layers" "I") ∈ mt_T := mt_m4 1 rfl rfl
theorem mw_la_X4_X4_points : (Cond.laysFinal "MountTableModel" "MountTableModel" "points" "[I") ∈ mt_T := mt_m4 3 rfl rfl
theorem mw_la_X4_X4_lowers : (Cond.laysFinal "MountTableModel" "MountTableModel" "lowers" "[I") ∈ mt_T := mt_m4 5 rfl rfl
theorem mw_la_X4_X4_uppers : (Cond.laysFinal "MountTableModel" "MountTableModel" "uppers" "[I") ∈ mt_T := mt_m4 7 rfl rfl
theorem mw_la_X4_X4_isThere : (Cond.laysFinal "MountTableModel" "MountTableModel" "isThere" "[Z") ∈ mt_T := mt_m4 9 rfl rfl
theorem mw_la_X4_X4_isCrossing : (Cond.laysFinal "MountTableModel" "MountTableModel" "isCrossing" "[Z") ∈ mt_T := mt_m4 11 rfl rfl
theorem mw_la_X4_X4_mounts : (Cond.lays "MountTableModel" "MountTableModel" "mounts" "I") ∈ mt_T := mt_m4 13 rfl rfl
theorem mw_la_X4_X4_quotas : (Cond.laysFinal "MountTableModel" "MountTableModel" "quotas" "[I") ∈ mt_T := mt_m4 15 rfl rfl
theorem mw_la_X4_X4_copies : (Cond.lays "MountTableModel" "MountTableModel" "copies" "I") ∈ mt_T := mt_m4 17 rfl rfl
theorem mw_la_X4_X4_kept : (Cond.laysFinal "MountTableModel" "MountTableModel" "kept" "[I") ∈ mt_T := mt_m4 19 rfl rfl
theorem mw_la_X4_X4_isSeen : (Cond.laysFinal "MountTableModel" "MountTableModel" "isSeen" "[Z") ∈ mt_T := mt_m4 21 rfl rfl
theorem mw_la_X4_X4_backups : (Cond.lays "MountTableModel" "MountTableModel" "backups" "I") ∈ mt_T := mt_m4 23 rfl rfl
theorem mw_la_X4_X4_thrown : (Cond.lays "MountTableModel" "MountTableModel" "thrown" "I") ∈ mt_T := mt_m4 25 rfl rfl
theorem mw_ml_L_112 : (Cond.methodLink "MountTableLaw" (112 : Nat) ({ cls := "MountTableModel", name := "thrown", desc := "()I" } : MethodName)) ∈ mt_T := mt_m4 28 rfl rfl
theorem mw_im_X4_thrown : (Cond.instanceMethod ({ cls := "MountTableModel", name := "thrown", desc := "()I" } : MethodName)) ∈ mt_T := mt_m4 29 rfl rfl
theorem mw_se_X4_X4_thrown : (Cond.selects "MountTableModel" ({ cls := "MountTableModel", name := "thrown", desc := "()I" } : MethodName) ({ cls := "MountTableModel", name := "thrown", desc := "()I" } : MethodName)) ∈ mt_T := mt_m4 30 rfl rfl
theorem mw_co_X4_thrown : (Cond.code ({ cls := "MountTableModel", name := "thrown", desc := "()I" } : MethodName) prog_6_method_2_code (1 : Nat) (Option.some ClassFile.FieldType.int)) ∈ mt_T := mt_m4 31 rfl rfl
theorem mw_ml_L_111 : (Cond.methodLink "MountTableLaw" (111 : Nat) ({ cls := "MountTableModel", name := "addLayer", desc := "()I" } : MethodName)) ∈ mt_T := mt_m4 32 rfl rfl
theorem mw_im_X4_addLayer : (Cond.instanceMethod ({ cls := "MountTableModel", name := "addLayer", desc := "()I" } : MethodName)) ∈ mt_T := mt_m4 33 rfl rfl
theorem mw_se_X4_X4_addLayer : (Cond.selects "MountTableModel" ({ cls := "MountTableModel", name := "addLayer", desc := "()I" } : MethodName) ({ cls := "MountTableModel", name := "addLayer", desc := "()I" } : MethodName)) ∈ mt_T := mt_m4 34 rfl rfl
theorem mw_co_X4_addLayer : (Cond.code ({ cls := "MountTableModel", name := "addLayer", desc := "()I" } : MethodName) prog_6_method_11_code (1 : Nat) (Option.some ClassFile.FieldType.int)) ∈ mt_T := mt_m4 35 rfl rfl
theorem mw_ml_L_118 : (Cond.methodLink "MountTableLaw" (118 : Nat) ({ cls := "MountTableModel", name := "mount", desc := "(III)I" } : MethodName)) ∈ mt_T := mt_m4 36 rfl rfl
theorem mw_im_X4_mount : (Cond.instanceMethod ({ cls := "MountTableModel", name := "mount", desc := "(III)I" } : MethodName)) ∈ mt_T := mt_m4 37 rfl rfl
theorem mw_se_X4_X4_mount : (Cond.selects "MountTableModel" ({ cls := "MountTableModel", name := "mount", desc := "(III)I" } : MethodName) ({ cls := "MountTableModel", name := "mount", desc := "(III)I" } : MethodName)) ∈ mt_T := mt_m4 38 rfl rfl
theorem mw_co_X4_mount : (Cond.code ({ cls := "MountTableModel", name := "mount", desc := "(III)I" } : MethodName) prog_6_method_15_code (5 : Nat) (Option.some ClassFile.FieldType.int)) ∈ mt_T := mt_m4 39 rfl rfl
theorem mw_ml_X4_70 : (Cond.methodLink "MountTableModel" (70 : Nat) ({ cls := "MountTableModel", name := "isPath", desc := "(I)Z" } : MethodName)) ∈ mt_T := mt_m4 40 rfl rfl
theorem mw_st_X4_isPath : (Cond.static ({ cls := "MountTableModel", name := "isPath", desc := "(I)Z" } : MethodName)) ∈ mt_T := mt_m4 41 rfl rfl
theorem mw_co_X4_isPath : (Cond.code ({ cls := "MountTableModel", name := "isPath", desc := "(I)Z" } : MethodName) prog_6_method_4_code (3 : Nat) (Option.some ClassFile.FieldType.boolean)) ∈ mt_T := mt_m4 42 rfl rfl
theorem mw_cn_X4_48 : (Cond.constantLong "MountTableModel" (48 : Nat) (4444 : Int64)) ∈ mt_T := mt_m4 43 rfl rfl
theorem mw_ml_X4_50 : (Cond.methodLink "MountTableModel" (50 : Nat) ({ cls := "MountTableModel", name := "in", desc := "(JJJ)Z" } : MethodName)) ∈ mt_T := mt_m4 44 rfl rfl
theorem mw_st_X4_in : (Cond.static ({ cls := "MountTableModel", name := "in", desc := "(JJJ)Z" } : MethodName)) ∈ mt_T := mt_m4 45 rfl rfl
theorem mw_co_X4_in : (Cond.code ({ cls := "MountTableModel", name := "in", desc := "(JJJ)Z" } : MethodName) prog_6_method_3_code (6 : Nat) (Option.some ClassFile.FieldType.boolean)) ∈ mt_T := mt_m4 46 rfl rfl
theorem mw_cn_X4_54 : (Cond.constantLong "MountTableModel" (54 : Nat) (4 : Int64)) ∈ mt_T := mt_m4 47 rfl rfl
theorem mw_ml_X4_74 : (Cond.methodLink "MountTableModel" (74 : Nat) ({ cls := "MountTableModel", name := "isLayer", desc := "(I)Z" } : MethodName)) ∈ mt_T := mt_m4 48 rfl rfl
theorem mw_im_X4_isLayer : (Cond.instanceMethod ({ cls := "MountTableModel", name := "isLayer", desc := "(I)Z" } : MethodName)) ∈ mt_T := mt_m4 50 rfl rfl
theorem mw_co_X4_isLayer : (Cond.code ({ cls := "MountTableModel", name := "isLayer", desc := "(I)Z" } : MethodName) prog_6_method_12_code (2 : Nat) (Option.some ClassFile.FieldType.boolean)) ∈ mt_T := mt_m4 51 rfl rfl
theorem mw_ml_X4_77 : (Cond.methodLink "MountTableModel" (77 : Nat) ({ cls := "MountTableModel", name := "isUpper", desc := "(I)Z" } : MethodName)) ∈ mt_T := mt_m4 52 rfl rfl
theorem mw_im_X4_isUpper : (Cond.instanceMethod ({ cls := "MountTableModel", name := "isUpper", desc := "(I)Z" } : MethodName)) ∈ mt_T := mt_m4 54 rfl rfl
theorem mw_co_X4_isUpper : (Cond.code ({ cls := "MountTableModel", name := "isUpper", desc := "(I)Z" } : MethodName) prog_6_method_13_code (4 : Nat) (Option.some ClassFile.FieldType.boolean)) ∈ mt_T := mt_m4 55 rfl rfl
theorem mw_ml_X4_80 : (Cond.methodLink "MountTableModel" (80 : Nat) ({ cls := "MountTableModel", name := "isUsed", desc := "(I)Z" } : MethodName)) ∈ mt_T := mt_m4 56 rfl rfl
theorem mw_im_X4_isUsed : (Cond.instanceMethod ({ cls := "MountTableModel", name := "isUsed", desc := "(I)Z" } : MethodName)) ∈ mt_T := mt_m4 58 rfl rfl
theorem mw_co_X4_isUsed : (Cond.code ({ cls := "MountTableModel", name := "isUsed", desc := "(I)Z" } : MethodName) prog_6_method_14_code (4 : Nat) (Option.some ClassFile.FieldType.boolean)) ∈ mt_T := mt_m4 59 rfl rfl
theorem mw_ml_L_122 : (Cond.methodLink "MountTableLaw" (122 : Nat) ({ cls := "MountTableModel", name := "unmount", desc := "(I)I" } : MethodName)) ∈ mt_T := mt_m4 60 rfl rfl
theorem mw_im_X4_unmount : (Cond.instanceMethod ({ cls := "MountTableModel", name := "unmount", desc := "(I)I" } : MethodName)) ∈ mt_T := mt_m4 61 rfl rfl
theorem mw_se_X4_X4_unmount : (Cond.selects "MountTableModel" ({ cls := "MountTableModel", name := "unmount", desc := "(I)I" } : MethodName) ({ cls := "MountTableModel", name := "unmount", desc := "(I)I" } : MethodName)) ∈ mt_T := mt_m4 62 rfl rfl
theorem mw_co_X4_unmount : (Cond.code ({ cls := "MountTableModel", name := "unmount", desc := "(I)I" } : MethodName) prog_6_method_17_code (4 : Nat) (Option.some ClassFile.FieldType.int)) ∈ mt_T := mt_m4 63 rfl rfl
theorem mw_ml_X4_83 : (Cond.methodLink "MountTableModel" (83 : Nat) ({ cls := "MountTableModel", name := "isMount", desc := "(I)Z" } : MethodName)) ∈ mt_T := mt_m4 64 rfl rfl
theorem mw_im_X4_isMount : (Cond.instanceMethod ({ cls := "MountTableModel", name := "isMount", desc := "(I)Z" } : MethodName)) ∈ mt_T := mt_m4 66 rfl rfl
theorem mw_co_X4_isMount : (Cond.code ({ cls := "MountTableModel", name := "isMount", desc := "(I)Z" } : MethodName) prog_6_method_16_code (2 : Nat) (Option.some ClassFile.FieldType.boolean)) ∈ mt_T := mt_m4 67 rfl rfl
theorem mw_ml_L_126 : (Cond.methodLink "MountTableLaw" (126 : Nat) ({ cls := "MountTableModel", name := "move", desc := "(II)I" } : MethodName)) ∈ mt_T := mt_m4 68 rfl rfl
theorem mw_im_X4_move : (Cond.instanceMethod ({ cls := "MountTableModel", name := "move", desc := "(II)I" } : MethodName)) ∈ mt_T := mt_m4 69 rfl rfl
theorem mw_se_X4_X4_move : (Cond.selects "MountTableModel" ({ cls := "MountTableModel", name := "move", desc := "(II)I" } : MethodName) ({ cls := "MountTableModel", name := "move", desc := "(II)I" } : MethodName)) ∈ mt_T := mt_m4 70 rfl rfl
theorem mw_co_X4_move : (Cond.code ({ cls := "MountTableModel", name := "move", desc := "(II)I" } : MethodName) prog_6_method_18_code (4 : Nat) (Option.some ClassFile.FieldType.int)) ∈ mt_T := mt_m4 71 rfl rfl
theorem mw_ml_L_130 : (Cond.methodLink "MountTableLaw" (130 : Nat) ({ cls := "MountTableModel", name := "setCrossing", desc := "(IZ)Z" } : MethodName)) ∈ mt_T := mt_m4 72 rfl rfl
theorem mw_im_X4_setCrossing : (Cond.instanceMethod ({ cls := "MountTableModel", name := "setCrossing", desc := "(IZ)Z" } : MethodName)) ∈ mt_T := mt_m4 73 rfl rfl
theorem mw_se_X4_X4_setCrossing : (Cond.selects "MountTableModel" ({ cls := "MountTableModel", name := "setCrossing", desc := "(IZ)Z" } : MethodName) ({ cls := "MountTableModel", name := "setCrossing", desc := "(IZ)Z" } : MethodName)) ∈ mt_T := mt_m4 74 rfl rfl
theorem mw_co_X4_setCrossing : (Cond.code ({ cls := "MountTableModel", name := "setCrossing", desc := "(IZ)Z" } : MethodName) prog_6_method_19_code (4 : Nat) (Option.some ClassFile.FieldType.boolean)) ∈ mt_T := mt_m4 75 rfl rfl
theorem mw_ml_L_133 : (Cond.methodLink "MountTableLaw" (133 : Nat) ({ cls := "MountTableModel", name := "served", desc := "(I)I" } : MethodName)) ∈ mt_T := mt_m4 76 rfl rfl
theorem mw_im_X4_served : (Cond.instanceMethod ({ cls := "MountTableModel", name := "served", desc := "(I)I" } : MethodName)) ∈ mt_T := mt_m4 77 rfl rfl
theorem mw_se_X4_X4_served : (Cond.selects "MountTableModel" ({ cls := "MountTableModel", name := "served", desc := "(I)I" } : MethodName) ({ cls := "MountTableModel", name := "served", desc := "(I)I" } : MethodName)) ∈ mt_T := mt_m4 78 rfl rfl
theorem mw_co_X4_served : (Cond.code ({ cls := "MountTableModel", name := "served", desc := "(I)I" } : MethodName) prog_6_method_21_code (2 : Nat) (Option.some ClassFile.FieldType.int)) ∈ mt_T := mt_m4 79 rfl rfl
theorem mw_ml_X4_90 : (Cond.methodLink "MountTableModel" (90 : Nat) ({ cls := "MountTableModel", name := "servedBy", desc := "(I)I" } : MethodName)) ∈ mt_T := mt_m4 80 rfl rfl
theorem mw_im_X4_servedBy : (Cond.instanceMethod ({ cls := "MountTableModel", name := "servedBy", desc := "(I)I" } : MethodName)) ∈ mt_T := mt_m4 82 rfl rfl
theorem mw_co_X4_servedBy : (Cond.code ({ cls := "MountTableModel", name := "servedBy", desc := "(I)I" } : MethodName) prog_6_method_20_code (4 : Nat) (Option.some ClassFile.FieldType.int)) ∈ mt_T := mt_m4 83 rfl rfl
theorem mw_ml_X4_86 : (Cond.methodLink "MountTableModel" (86 : Nat) ({ cls := "MountTableModel", name := "begins", desc := "(II)Z" } : MethodName)) ∈ mt_T := mt_m4 84 rfl rfl
theorem mw_st_X4_begins : (Cond.static ({ cls := "MountTableModel", name := "begins", desc := "(II)Z" } : MethodName)) ∈ mt_T := mt_m4 85 rfl rfl
theorem mw_co_X4_begins : (Cond.code ({ cls := "MountTableModel", name := "begins", desc := "(II)Z" } : MethodName) prog_6_method_9_code (3 : Nat) (Option.some ClassFile.FieldType.boolean)) ∈ mt_T := mt_m4 86 rfl rfl
theorem mw_ml_X4_56 : (Cond.methodLink "MountTableModel" (56 : Nat) ({ cls := "MountTableModel", name := "digits", desc := "(I)I" } : MethodName)) ∈ mt_T := mt_m4 87 rfl rfl
theorem mw_st_X4_digits : (Cond.static ({ cls := "MountTableModel", name := "digits", desc := "(I)I" } : MethodName)) ∈ mt_T := mt_m4 88 rfl rfl
theorem mw_co_X4_digits : (Cond.code ({ cls := "MountTableModel", name := "digits", desc := "(I)I" } : MethodName) prog_6_method_5_code (3 : Nat) (Option.some ClassFile.FieldType.int)) ∈ mt_T := mt_m4 89 rfl rfl
theorem mw_ml_X4_60 : (Cond.methodLink "MountTableModel" (60 : Nat) ({ cls := "MountTableModel", name := "power", desc := "(II)I" } : MethodName)) ∈ mt_T := mt_m4 90 rfl rfl
theorem mw_st_X4_power : (Cond.static ({ cls := "MountTableModel", name := "power", desc := "(II)I" } : MethodName)) ∈ mt_T := mt_m4 91 rfl rfl
theorem mw_co_X4_power : (Cond.code ({ cls := "MountTableModel", name := "power", desc := "(II)I" } : MethodName) prog_6_method_6_code (4 : Nat) (Option.some ClassFile.FieldType.int)) ∈ mt_T := mt_m4 92 rfl rfl
theorem mw_ml_L_137 : (Cond.methodLink "MountTableLaw" (137 : Nat) ({ cls := "MountTableModel", name := "covered", desc := "()I" } : MethodName)) ∈ mt_T := mt_m4 93 rfl rfl
theorem mw_im_X4_covered : (Cond.instanceMethod ({ cls := "MountTableModel", name := "covered", desc := "()I" } : MethodName)) ∈ mt_T := mt_m4 94 rfl rfl
theorem mw_se_X4_X4_covered : (Cond.selects "MountTableModel" ({ cls := "MountTableModel", name := "covered", desc := "()I" } : MethodName) ({ cls := "MountTableModel", name := "covered", desc := "()I" } : MethodName)) ∈ mt_T := mt_m4 95 rfl rfl
theorem mw_co_X4_covered : (Cond.code ({ cls := "MountTableModel", name := "covered", desc := "()I" } : MethodName) prog_6_method_22_code (5 : Nat) (Option.some ClassFile.FieldType.int)) ∈ mt_T := mt_m4 96 rfl rfl
theorem mw_ml_X4_93 : (Cond.methodLink "MountTableModel" (93 : Nat) ({ cls := "MountTableModel", name := "pathOf", desc := "(I)I" } : MethodName)) ∈ mt_T := mt_m4 97 rfl rfl
theorem mw_st_X4_pathOf : (Cond.static ({ cls := "MountTableModel", name := "pathOf", desc := "(I)I" } : MethodName)) ∈ mt_T := mt_m4 98 rfl rfl
theorem mw_co_X4_pathOf : (Cond.code ({ cls := "MountTableModel", name := "pathOf", desc := "(I)I" } : MethodName) prog_6_method_8_code (5 : Nat) (Option.some ClassFile.FieldType.int)) ∈ mt_T := mt_m4 99 rfl rfl
theorem mw_ml_L_140 : (Cond.methodLink "MountTableLaw" (140 : Nat) ({ cls := "MountTableModel", name := "write", desc := "(III)I" } : MethodName)) ∈ mt_T := mt_m4 100 rfl rfl
theorem mw_im_X4_write : (Cond.instanceMethod ({ cls := "MountTableModel", name := "write", desc := "(III)I" } : MethodName)) ∈ mt_T := mt_m4 101 rfl rfl
theorem mw_se_X4_X4_write : (Cond.selects "MountTableModel" ({ cls := "MountTableModel", name := "write", desc := "(III)I" } : MethodName) ({ cls := "MountTableModel", name := "write", desc := "(III)I" } : MethodName)) ∈ mt_T := mt_m4 102 rfl rfl
theorem mw_co_X4_write : (Cond.code ({ cls := "MountTableModel", name := "write", desc := "(III)I" } : MethodName) prog_6_method_29_code (5 : Nat) (Option.some ClassFile.FieldType.int)) ∈ mt_T := mt_m4 103 rfl rfl
theorem mw_ml_X4_113 : (Cond.methodLink "MountTableModel" (113 : Nat) ({ cls := "MountTableModel", name := "isOwner", desc := "(I)Z" } : MethodName)) ∈ mt_T := mt_m4 104 rfl rfl
theorem mw_st_X4_isOwner : (Cond.static ({ cls := "MountTableModel", name := "isOwner", desc := "(I)Z" } : MethodName)) ∈ mt_T := mt_m4 105 rfl rfl
theorem mw_co_X4_isOwner : (Cond.code ({ cls := "MountTableModel", name := "isOwner", desc := "(I)Z" } : MethodName) prog_6_method_25_code (1 : Nat) (Option.some ClassFile.FieldType.boolean)) ∈ mt_T := mt_m4 106 rfl rfl
theorem mw_cn_X4_102 : (Cond.constantLong "MountTableModel" (102 : Nat) (3 : Int64)) ∈ mt_T := mt_m4 107 rfl rfl
theorem mw_cn_X4_116 : (Cond.constantLong "MountTableModel" (116 : Nat) (9999 : Int64)) ∈ mt_T := mt_m4 108 rfl rfl
theorem mw_ml_X4_118 : (Cond.methodLink "MountTableModel" (118 : Nat) ({ cls := "MountTableModel", name := "canWrite", desc := "(I)Z" } : MethodName)) ∈ mt_T := mt_m4 109 rfl rfl
theorem mw_im_X4_canWrite : (Cond.instanceMethod ({ cls := "MountTableModel", name := "canWrite", desc := "(I)Z" } : MethodName)) ∈ mt_T := mt_m4 111 rfl rfl
theorem mw_co_X4_canWrite : (Cond.code ({ cls := "MountTableModel", name := "canWrite", desc := "(I)Z" } : MethodName) prog_6_method_26_code (3 : Nat) (Option.some ClassFile.FieldType.boolean)) ∈ mt_T := mt_m4 112 rfl rfl
theorem mw_ml_X4_96 : (Cond.methodLink "MountTableModel" (96 : Nat) ({ cls := "MountTableModel", name := "rest", desc := "(II)I" } : MethodName)) ∈ mt_T := mt_m4 113 rfl rfl
theorem mw_st_X4_rest : (Cond.static ({ cls := "MountTableModel", name := "rest", desc := "(II)I" } : MethodName)) ∈ mt_T := mt_m4 114 rfl rfl
theorem mw_co_X4_rest : (Cond.code ({ cls := "MountTableModel", name := "rest", desc := "(II)I" } : MethodName) prog_6_method_10_code (2 : Nat) (Option.some ClassFile.FieldType.int)) ∈ mt_T := mt_m4 115 rfl rfl
theorem mw_ml_X4_104 : (Cond.methodLink "MountTableModel" (104 : Nat) ({ cls := "MountTableModel", name := "target", desc := "(I)I" } : MethodName)) ∈ mt_T := mt_m4 116 rfl rfl
theorem mw_im_X4_target : (Cond.instanceMethod ({ cls := "MountTableModel", name := "target", desc := "(I)I" } : MethodName)) ∈ mt_T := mt_m4 118 rfl rfl
theorem mw_co_X4_target : (Cond.code ({ cls := "MountTableModel", name := "target", desc := "(I)I" } : MethodName) prog_6_method_27_code (3 : Nat) (Option.some ClassFile.FieldType.int)) ∈ mt_T := mt_m4 119 rfl rfl
theorem mw_ml_X4_99 : (Cond.methodLink "MountTableModel" (99 : Nat) ({ cls := "MountTableModel", name := "rank", desc := "(I)I" } : MethodName)) ∈ mt_T := mt_m4 120 rfl rfl
theorem mw_st_X4_rank : (Cond.static ({ cls := "MountTableModel", name := "rank", desc := "(I)I" } : MethodName)) ∈ mt_T := mt_m4 121 rfl rfl
theorem mw_co_X4_rank : (Cond.code ({ cls := "MountTableModel", name := "rank", desc := "(I)I" } : MethodName) prog_6_method_7_code (4 : Nat) (Option.some ClassFile.FieldType.int)) ∈ mt_T := mt_m4 122 rfl rfl
theorem mw_ml_X4_121 : (Cond.methodLink "MountTableModel" (121 : Nat) ({ cls := "MountTableModel", name := "used", desc := "(II)I" } : MethodName)) ∈ mt_T := mt_m4 123 rfl rfl
theorem mw_im_X4_used : (Cond.instanceMethod ({ cls := "MountTableModel", name := "used", desc := "(II)I" } : MethodName)) ∈ mt_T := mt_m4 125 rfl rfl
theorem mw_co_X4_used : (Cond.code ({ cls := "MountTableModel", name := "used", desc := "(II)I" } : MethodName) prog_6_method_24_code (5 : Nat) (Option.some ClassFile.FieldType.int)) ∈ mt_T := mt_m4 126 rfl rfl
theorem mw_ml_X4_124 : (Cond.methodLink "MountTableModel" (124 : Nat) ({ cls := "MountTableModel", name := "puts", desc := "(IIII)V" } : MethodName)) ∈ mt_T := mt_m4 127 rfl rfl
theorem mw_im_X4_puts : (Cond.instanceMethod ({ cls := "MountTableModel", name := "puts", desc := "(IIII)V" } : MethodName)) ∈ mt_T := mt_m4 129 rfl rfl
theorem mw_co_X4_puts : (Cond.code ({ cls := "MountTableModel", name := "puts", desc := "(IIII)V" } : MethodName) prog_6_method_28_code (7 : Nat) (Option.none : Option ClassFile.FieldType)) ∈ mt_T := mt_m4 130 rfl rfl
theorem mw_ml_X4_107 : (Cond.methodLink "MountTableModel" (107 : Nat) ({ cls := "MountTableModel", name := "shown", desc := "(I)I" } : MethodName)) ∈ mt_T := mt_m4 131 rfl rfl
theorem mw_im_X4_shown : (Cond.instanceMethod ({ cls := "MountTableModel", name := "shown", desc := "(I)I" } : MethodName)) ∈ mt_T := mt_m4 133 rfl rfl
theorem mw_co_X4_shown : (Cond.code ({ cls := "MountTableModel", name := "shown", desc := "(I)I" } : MethodName) prog_6_method_23_code (6 : Nat) (Option.some ClassFile.FieldType.int)) ∈ mt_T := mt_m4 134 rfl rfl
theorem mw_ml_L_143 : (Cond.methodLink "MountTableLaw" (143 : Nat) ({ cls := "MountTableModel", name := "link", desc := "(III)I" } : MethodName)) ∈ mt_T := mt_m4 135 rfl rfl
theorem mw_im_X4_link : (Cond.instanceMethod ({ cls := "MountTableModel", name := "link", desc := "(III)I" } : MethodName)) ∈ mt_T := mt_m4 136 rfl rfl
theorem mw_se_X4_X4_link : (Cond.selects "MountTableModel" ({ cls := "MountTableModel", name := "link", desc := "(III)I" } : MethodName) ({ cls := "MountTableModel", name := "link", desc := "(III)I" } : MethodName)) ∈ mt_T := mt_m4 137 rfl rfl
theorem mw_co_X4_link : (Cond.code ({ cls := "MountTableModel", name := "link", desc := "(III)I" } : MethodName) prog_6_method_30_code (6 : Nat) (Option.some ClassFile.FieldType.int)) ∈ mt_T := mt_m4 138 rfl rfl
theorem mw_ml_L_146 : (Cond.methodLink "MountTableLaw" (146 : Nat) ({ cls := "MountTableModel", name := "remove", desc := "(I)I" } : MethodName)) ∈ mt_T := mt_m4 139 rfl rfl
theorem mw_im_X4_remove : (Cond.instanceMethod ({ cls := "MountTableModel", name := "remove", desc := "(I)I" } : MethodName)) ∈ mt_T := mt_m4 140 rfl rfl
theorem mw_se_X4_X4_remove : (Cond.selects "MountTableModel" ({ cls := "MountTableModel", name := "remove", desc := "(I)I" } : MethodName) ({ cls := "MountTableModel", name := "remove", desc := "(I)I" } : MethodName)) ∈ mt_T := mt_m4 141 rfl rfl
theorem mw_co_X4_remove : (Cond.code ({ cls := "MountTableModel", name := "remove", desc := "(I)I" } : MethodName) prog_6_method_32_code (7 : Nat) (Option.some ClassFile.FieldType.int)) ∈ mt_T := mt_m4 142 rfl rfl
theorem mw_ml_X4_128 : (Cond.methodLink "MountTableModel" (128 : Nat) ({ cls := "MountTableModel", name := "asks", desc := "(I)Z" } : MethodName)) ∈ mt_T := mt_m4 143 rfl rfl
theorem mw_im_X4_asks : (Cond.instanceMethod ({ cls := "MountTableModel", name := "asks", desc := "(I)Z" } : MethodName)) ∈ mt_T := mt_m4 145 rfl rfl
theorem mw_co_X4_asks : (Cond.code ({ cls := "MountTableModel", name := "asks", desc := "(I)Z" } : MethodName) prog_6_method_31_code (2 : Nat) (Option.some ClassFile.FieldType.boolean)) ∈ mt_T := mt_m4 146 rfl rfl
theorem mw_ml_L_149 : (Cond.methodLink "MountTableLaw" (149 : Nat) ({ cls := "MountTableModel", name := "shows", desc := "(I)C" } : MethodName)) ∈ mt_T := mt_m4 147 rfl rfl
theorem mw_im_X4_shows : (Cond.instanceMethod ({ cls := "MountTableModel", name := "shows", desc := "(I)C" } : MethodName)) ∈ mt_T := mt_m4 148 rfl rfl
theorem mw_se_X4_X4_shows : (Cond.selects "MountTableModel" ({ cls := "MountTableModel", name := "shows", desc := "(I)C" } : MethodName) ({ cls := "MountTableModel", name := "shows", desc := "(I)C" } : MethodName)) ∈ mt_T := mt_m4 149 rfl rfl
theorem mw_co_X4_shows : (Cond.code ({ cls := "MountTableModel", name := "shows", desc := "(I)C" } : MethodName) prog_6_method_33_code (3 : Nat) (Option.some ClassFile.FieldType.char)) ∈ mt_T := mt_m4 150 rfl rfl
theorem mw_ml_L_152 : (Cond.methodLink "MountTableLaw" (152 : Nat) ({ cls := "MountTableModel", name := "layerOf", desc := "(I)I" } : MethodName)) ∈ mt_T := mt_m4 151 rfl rfl
theorem mw_im_X4_layerOf : (Cond.instanceMethod ({ cls := "MountTableModel", name := "layerOf", desc := "(I)I" } : MethodName)) ∈ mt_T := mt_m4 152 rfl rfl
theorem mw_se_X4_X4_layerOf : (Cond.selects "MountTableModel" ({ cls := "MountTableModel", name := "layerOf", desc := "(I)I" } : MethodName) ({ cls := "MountTableModel", name := "layerOf", desc := "(I)I" } : MethodName)) ∈ mt_T := mt_m4 153 rfl rfl
theorem mw_co_X4_layerOf : (Cond.code ({ cls := "MountTableModel", name := "layerOf", desc := "(I)I" } : MethodName) prog_6_method_35_code (2 : Nat) (Option.some ClassFile.FieldType.int)) ∈ mt_T := mt_m4 154 rfl rfl
theorem mw_ml_X4_131 : (Cond.methodLink "MountTableModel" (131 : Nat) ({ cls := "MountTableModel", name := "asksShown", desc := "(I)Z" } : MethodName)) ∈ mt_T := mt_m4 155 rfl rfl
theorem mw_im_X4_asksShown : (Cond.instanceMethod ({ cls := "MountTableModel", name := "asksShown", desc := "(I)Z" } : MethodName)) ∈ mt_T := mt_m4 157 rfl rfl
theorem mw_co_X4_asksShown : (Cond.code ({ cls := "MountTableModel", name := "asksShown", desc := "(I)Z" } : MethodName) prog_6_method_34_code (2 : Nat) (Option.some ClassFile.FieldType.boolean)) ∈ mt_T := mt_m4 158 rfl rfl
theorem mw_ml_L_155 : (Cond.methodLink "MountTableLaw" (155 : Nat) ({ cls := "MountTableModel", name := "end", desc := "(I)I" } : MethodName)) ∈ mt_T := mt_m4 159 rfl rfl
theorem mw_im_X4_end : (Cond.instanceMethod ({ cls := "MountTableModel", name := "end", desc := "(I)I" } : MethodName)) ∈ mt_T := mt_m4 160 rfl rfl
theorem mw_se_X4_X4_end : (Cond.selects "MountTableModel" ({ cls := "MountTableModel", name := "end", desc := "(I)I" } : MethodName) ({ cls := "MountTableModel", name := "end", desc := "(I)I" } : MethodName)) ∈ mt_T := mt_m4 161 rfl rfl
theorem mw_co_X4_end : (Cond.code ({ cls := "MountTableModel", name := "end", desc := "(I)I" } : MethodName) prog_6_method_36_code (6 : Nat) (Option.some ClassFile.FieldType.int)) ∈ mt_T := mt_m4 162 rfl rfl
theorem mw_ml_L_158 : (Cond.methodLink "MountTableLaw" (158 : Nat) ({ cls := "MountTableModel", name := "size", desc := "(I)I" } : MethodName)) ∈ mt_T := mt_m4 163 rfl rfl
theorem mw_im_X4_size : (Cond.instanceMethod ({ cls := "MountTableModel", name := "size", desc := "(I)I" } : MethodName)) ∈ mt_T := mt_m4 164 rfl rfl
theorem mw_se_X4_X4_size : (Cond.selects "MountTableModel" ({ cls := "MountTableModel", name := "size", desc := "(I)I" } : MethodName) ({ cls := "MountTableModel", name := "size", desc := "(I)I" } : MethodName)) ∈ mt_T := mt_m4 165 rfl rfl
theorem mw_co_X4_size : (Cond.code ({ cls := "MountTableModel", name := "size", desc := "(I)I" } : MethodName) prog_6_method_37_code (4 : Nat) (Option.some ClassFile.FieldType.int)) ∈ mt_T := mt_m4 166 rfl rfl
theorem mw_ml_X4_134 : (Cond.methodLink "MountTableModel" (134 : Nat) ({ cls := "MountTableModel", name := "end", desc := "(I)I" } : MethodName)) ∈ mt_T := mt_m4 167 rfl rfl
theorem mw_ml_L_161 : (Cond.methodLink "MountTableLaw" (161 : Nat) ({ cls := "MountTableModel", name := "sizeByWalking", desc := "(I)I" } : MethodName)) ∈ mt_T := mt_m4 168 rfl rfl
theorem mw_im_X4_sizeByWalking : (Cond.instanceMethod ({ cls := "MountTableModel", name := "sizeByWalking", desc := "(I)I" } : MethodName)) ∈ mt_T := mt_m4 169 rfl rfl
theorem mw_se_X4_X4_sizeByWalking : (Cond.selects "MountTableModel" ({ cls := "MountTableModel", name := "sizeByWalking", desc := "(I)I" } : MethodName) ({ cls := "MountTableModel", name := "sizeByWalking", desc := "(I)I" } : MethodName)) ∈ mt_T := mt_m4 170 rfl rfl
theorem mw_co_X4_sizeByWalking : (Cond.code ({ cls := "MountTableModel", name := "sizeByWalking", desc := "(I)I" } : MethodName) prog_6_method_38_code (3 : Nat) (Option.some ClassFile.FieldType.int)) ∈ mt_T := mt_m4 171 rfl rfl
theorem mw_ml_L_164 : (Cond.methodLink "MountTableLaw" (164 : Nat) ({ cls := "MountTableModel", name := "ownerOf", desc := "(I)I" } : MethodName)) ∈ mt_T := mt_m4 172 rfl rfl
theorem mw_im_X4_ownerOf : (Cond.instanceMethod ({ cls := "MountTableModel", name := "ownerOf", desc := "(I)I" } : MethodName)) ∈ mt_T := mt_m4 173 rfl rfl
theorem mw_se_X4_X4_ownerOf : (Cond.selects "MountTableModel" ({ cls := "MountTableModel", name := "ownerOf", desc := "(I)I" } : MethodName) ({ cls := "MountTableModel", name := "ownerOf", desc := "(I)I" } : MethodName)) ∈ mt_T := mt_m4 174 rfl rfl
theorem mw_co_X4_ownerOf : (Cond.code ({ cls := "MountTableModel", name := "ownerOf", desc := "(I)I" } : MethodName) prog_6_method_39_code (2 : Nat) (Option.some ClassFile.FieldType.int)) ∈ mt_T := mt_m4 175 rfl rfl
theorem mw_ml_L_167 : (Cond.methodLink "MountTableLaw" (167 : Nat) ({ cls := "MountTableModel", name := "setQuota", desc := "(II)I" } : MethodName)) ∈ mt_T := mt_m4 176 rfl rfl
theorem mw_im_X4_setQuota : (Cond.instanceMethod ({ cls := "MountTableModel", name := "setQuota", desc := "(II)I" } : MethodName)) ∈ mt_T := mt_m4 177 rfl rfl
theorem mw_se_X4_X4_setQuota : (Cond.selects "MountTableModel" ({ cls := "MountTableModel", name := "setQuota", desc := "(II)I" } : MethodName) ({ cls := "MountTableModel", name := "setQuota", desc := "(II)I" } : MethodName)) ∈ mt_T := mt_m4 178 rfl rfl
theorem mw_co_X4_setQuota : (Cond.code ({ cls := "MountTableModel", name := "setQuota", desc := "(II)I" } : MethodName) prog_6_method_40_code (4 : Nat) (Option.some ClassFile.FieldType.int)) ∈ mt_T := mt_m4 179 rfl rfl
theorem mw_cn_X4_137 : (Cond.constantLong "MountTableModel" (137 : Nat) (99999 : Int64)) ∈ mt_T := mt_m4 180 rfl rfl
theorem mw_ml_L_170 : (Cond.methodLink "MountTableLaw" (170 : Nat) ({ cls := "MountTableModel", name := "used", desc := "(I)I" } : MethodName)) ∈ mt_T := mt_m4 181 rfl rfl
theorem mw_im_X4_used_ : (Cond.instanceMethod ({ cls := "MountTableModel", name := "used", desc := "(I)I" } : MethodName)) ∈ mt_T := mt_m4 182 rfl rfl
theorem mw_se_X4_X4_used_ : (Cond.selects "MountTableModel" ({ cls := "MountTableModel", name := "used", desc := "(I)I" } : MethodName) ({ cls := "MountTableModel", name := "used", desc := "(I)I" } : MethodName)) ∈ mt_T := mt_m4 183 rfl rfl
theorem mw_co_X4_used_ : (Cond.code ({ cls := "MountTableModel", name := "used", desc := "(I)I" } : MethodName) prog_6_method_41_code (2 : Nat) (Option.some ClassFile.FieldType.int)) ∈ mt_T := mt_m4 184 rfl rfl
theorem mw_ml_L_173 : (Cond.methodLink "MountTableLaw" (173 : Nat) ({ cls := "MountTableModel", name := "usedByLayers", desc := "(I)I" } : MethodName)) ∈ mt_T := mt_m4 185 rfl rfl
theorem mw_im_X4_usedByLayers : (Cond.instanceMethod ({ cls := "MountTableModel", name := "usedByLayers", desc := "(I)I" } : MethodName)) ∈ mt_T := mt_m4 186 rfl rfl
theorem mw_se_X4_X4_usedByLayers : (Cond.selects "MountTableModel" ({ cls := "MountTableModel", name := "usedByLayers", desc := "(I)I" } : MethodName) ({ cls := "MountTableModel", name := "usedByLayers", desc := "(I)I" } : MethodName)) ∈ mt_T := mt_m4 187 rfl rfl
theorem mw_co_X4_usedByLayers : (Cond.code ({ cls := "MountTableModel", name := "usedByLayers", desc := "(I)I" } : MethodName) prog_6_method_42_code (2 : Nat) (Option.some ClassFile.FieldType.int)) ∈ mt_T := mt_m4 188 rfl rfl
theorem mw_ml_X4_139 : (Cond.methodLink "MountTableModel" (139 : Nat) ({ cls := "MountTableModel", name := "used", desc := "(I)I" } : MethodName)) ∈ mt_T := mt_m4 189 rfl rfl
theorem mw_ml_L_177 : (Cond.methodLink "MountTableLaw" (177 : Nat) ({ cls := "MountTableModel", name := "hidden", desc := "()I" } : MethodName)) ∈ mt_T := mt_m4 190 rfl rfl
theorem mw_im_X4_hidden : (Cond.instanceMethod ({ cls := "MountTableModel", name := "hidden", desc := "()I" } : MethodName)) ∈ mt_T := mt_m4 191 rfl rfl
theorem mw_se_X4_X4_hidden : (Cond.selects "MountTableModel" ({ cls := "MountTableModel", name := "hidden", desc := "()I" } : MethodName) ({ cls := "MountTableModel", name := "hidden", desc := "()I" } : MethodName)) ∈ mt_T := mt_m4 192 rfl rfl
theorem mw_co_X4_hidden : (Cond.code ({ cls := "MountTableModel", name := "hidden", desc := "()I" } : MethodName) prog_6_method_45_code (1 : Nat) (Option.some ClassFile.FieldType.int)) ∈ mt_T := mt_m4 193 rfl rfl
theorem mw_ml_X4_141 : (Cond.methodLink "MountTableModel" (141 : Nat) ({ cls := "MountTableModel", name := "bytesOfAll", desc := "()I" } : MethodName)) ∈ mt_T := mt_m4 194 rfl rfl
theorem mw_im_X4_bytesOfAll : (Cond.instanceMethod ({ cls := "MountTableModel", name := "bytesOfAll", desc := "()I" } : MethodName)) ∈ mt_T := mt_m4 196 rfl rfl
theorem mw_co_X4_bytesOfAll : (Cond.code ({ cls := "MountTableModel", name := "bytesOfAll", desc := "()I" } : MethodName) prog_6_method_43_code (1 : Nat) (Option.some ClassFile.FieldType.int)) ∈ mt_T := mt_m4 197 rfl rfl
theorem mw_ml_X4_145 : (Cond.methodLink "MountTableModel" (145 : Nat) ({ cls := "MountTableModel", name := "bytesShown", desc := "()I" } : MethodName)) ∈ mt_T := mt_m4 198 rfl rfl
theorem mw_im_X4_bytesShown : (Cond.instanceMethod ({ cls := "MountTableModel", name := "bytesShown", desc := "()I" } : MethodName)) ∈ mt_T := mt_m4 200 rfl rfl
theorem mw_co_X4_bytesShown : (Cond.code ({ cls := "MountTableModel", name := "bytesShown", desc := "()I" } : MethodName) prog_6_method_44_code (5 : Nat) (Option.some ClassFile.FieldType.int)) ∈ mt_T := mt_m4 201 rfl rfl
theorem mw_ml_L_181 : (Cond.methodLink "MountTableLaw" (181 : Nat) ({ cls := "MountTableModel", name := "copies", desc := "()I" } : MethodName)) ∈ mt_T := mt_m4 202 rfl rfl
theorem mw_im_X4_copies : (Cond.instanceMethod ({ cls := "MountTableModel", name := "copies", desc := "()I" } : MethodName)) ∈ mt_T := mt_m4 203 rfl rfl
theorem mw_se_X4_X4_copies : (Cond.selects "MountTableModel" ({ cls := "MountTableModel", name := "copies", desc := "()I" } : MethodName) ({ cls := "MountTableModel", name := "copies", desc := "()I" } : MethodName)) ∈ mt_T := mt_m4 204 rfl rfl
theorem mw_co_X4_copies : (Cond.code ({ cls := "MountTableModel", name := "copies", desc := "()I" } : MethodName) prog_6_method_46_code (1 : Nat) (Option.some ClassFile.FieldType.int)) ∈ mt_T := mt_m4 205 rfl rfl
theorem mw_ml_L_184 : (Cond.methodLink "MountTableLaw" (184 : Nat) ({ cls := "MountTableModel", name := "whiteouts", desc := "(I)I" } : MethodName)) ∈ mt_T := mt_m4 206 rfl rfl
theorem mw_im_X4_whiteouts : (Cond.instanceMethod ({ cls := "MountTableModel", name := "whiteouts", desc := "(I)I" } : MethodName)) ∈ mt_T := mt_m4 207 rfl rfl
theorem mw_se_X4_X4_whiteouts : (Cond.selects "MountTableModel" ({ cls := "MountTableModel", name := "whiteouts", desc := "(I)I" } : MethodName) ({ cls := "MountTableModel", name := "whiteouts", desc := "(I)I" } : MethodName)) ∈ mt_T := mt_m4 208 rfl rfl
theorem mw_co_X4_whiteouts : (Cond.code ({ cls := "MountTableModel", name := "whiteouts", desc := "(I)I" } : MethodName) prog_6_method_48_code (2 : Nat) (Option.some ClassFile.FieldType.int)) ∈ mt_T := mt_m4 209 rfl rfl
theorem mw_ml_X4_148 : (Cond.methodLink "MountTableModel" (148 : Nat) ({ cls := "MountTableModel", name := "count", desc := "(II)I" } : MethodName)) ∈ mt_T := mt_m4 210 rfl rfl
theorem mw_im_X4_count : (Cond.instanceMethod ({ cls := "MountTableModel", name := "count", desc := "(II)I" } : MethodName)) ∈ mt_T := mt_m4 212 rfl rfl
theorem mw_co_X4_count : (Cond.code ({ cls := "MountTableModel", name := "count", desc := "(II)I" } : MethodName) prog_6_method_47_code (5 : Nat) (Option.some ClassFile.FieldType.int)) ∈ mt_T := mt_m4 213 rfl rfl
theorem mw_ml_L_188 : (Cond.methodLink "MountTableLaw" (188 : Nat) ({ cls := "MountTableModel", name := "backUp", desc := "(Z)I" } : MethodName)) ∈ mt_T := mt_m4 214 rfl rfl
theorem mw_im_X4_backUp : (Cond.instanceMethod ({ cls := "MountTableModel", name := "backUp", desc := "(Z)I" } : MethodName)) ∈ mt_T := mt_m4 215 rfl rfl
theorem mw_se_X4_X4_backUp : (Cond.selects "MountTableModel" ({ cls := "MountTableModel", name := "backUp", desc := "(Z)I" } : MethodName) ({ cls := "MountTableModel", name := "backUp", desc := "(Z)I" } : MethodName)) ∈ mt_T := mt_m4 216 rfl rfl
theorem mw_co_X4_backUp : (Cond.code ({ cls := "MountTableModel", name := "backUp", desc := "(Z)I" } : MethodName) prog_6_method_50_code (3 : Nat) (Option.some ClassFile.FieldType.int)) ∈ mt_T := mt_m4 217 rfl rfl
theorem mw_ml_X4_154 : (Cond.methodLink "MountTableModel" (154 : Nat) ({ cls := "MountTableModel", name := "nowAt", desc := "(ZI)I" } : MethodName)) ∈ mt_T := mt_m4 218 rfl rfl
theorem mw_im_X4_nowAt : (Cond.instanceMethod ({ cls := "MountTableModel", name := "nowAt", desc := "(ZI)I" } : MethodName)) ∈ mt_T := mt_m4 220 rfl rfl
theorem mw_co_X4_nowAt : (Cond.code ({ cls := "MountTableModel", name := "nowAt", desc := "(ZI)I" } : MethodName) prog_6_method_49_code (4 : Nat) (Option.some ClassFile.FieldType.int)) ∈ mt_T := mt_m4 221 rfl rfl
theorem mw_ml_L_191 : (Cond.methodLink "MountTableLaw" (191 : Nat) ({ cls := "MountTableModel", name := "bytes", desc := "(I)I" } : MethodName)) ∈ mt_T := mt_m4 222 rfl rfl
theorem mw_im_X4_bytes : (Cond.instanceMethod ({ cls := "MountTableModel", name := "bytes", desc := "(I)I" } : MethodName)) ∈ mt_T := mt_m4 223 rfl rfl
theorem mw_se_X4_X4_bytes : (Cond.selects "MountTableModel" ({ cls := "MountTableModel", name := "bytes", desc := "(I)I" } : MethodName) ({ cls := "MountTableModel", name := "bytes", desc := "(I)I" } : MethodName)) ∈ mt_T := mt_m4 224 rfl rfl
theorem mw_co_X4_bytes : (Cond.code ({ cls := "MountTableModel", name := "bytes", desc := "(I)I" } : MethodName) prog_6_method_52_code (5 : Nat) (Option.some ClassFile.FieldType.int)) ∈ mt_T := mt_m4 225 rfl rfl
theorem mw_ml_X4_158 : (Cond.methodLink "MountTableModel" (158 : Nat) ({ cls := "MountTableModel", name := "isBackup", desc := "(I)Z" } : MethodName)) ∈ mt_T := mt_m4 226 rfl rfl
theorem mw_im_X4_isBackup : (Cond.instanceMethod ({ cls := "MountTableModel", name := "isBackup", desc := "(I)Z" } : MethodName)) ∈ mt_T := mt_m4 228 rfl rfl
theorem mw_co_X4_isBackup : (Cond.code ({ cls := "MountTableModel", name := "isBackup", desc := "(I)Z" } : MethodName) prog_6_method_51_code (2 : Nat) (Option.some ClassFile.FieldType.boolean)) ∈ mt_T := mt_m4 229 rfl rfl
theorem mw_ml_L_194 : (Cond.methodLink "MountTableLaw" (194 : Nat) ({ cls := "MountTableModel", name := "differences", desc := "(I)I" } : MethodName)) ∈ mt_T := mt_m4 230 rfl rfl
theorem mw_im_X4_differences : (Cond.instanceMethod ({ cls := "MountTableModel", name := "differences", desc := "(I)I" } : MethodName)) ∈ mt_T := mt_m4 231 rfl rfl
theorem mw_se_X4_X4_differences : (Cond.selects "MountTableModel" ({ cls := "MountTableModel", name := "differences", desc := "(I)I" } : MethodName) ({ cls := "MountTableModel", name := "differences", desc := "(I)I" } : MethodName)) ∈ mt_T := mt_m4 232 rfl rfl
theorem mw_co_X4_differences : (Cond.code ({ cls := "MountTableModel", name := "differences", desc := "(I)I" } : MethodName) prog_6_method_53_code (4 : Nat) (Option.some ClassFile.FieldType.int)) ∈ mt_T := mt_m4 233 rfl rfl
theorem mw_ml_L_198 : (Cond.methodLink "MountTableLaw" (198 : Nat) ({ cls := "MountTableModel", name := "shownShare", desc := "()F" } : MethodName)) ∈ mt_T := mt_m4 234 rfl rfl
theorem mw_im_X4_shownShare : (Cond.instanceMethod ({ cls := "MountTableModel", name := "shownShare", desc := "()F" } : MethodName)) ∈ mt_T := mt_m4 235 rfl rfl
theorem mw_se_X4_X4_shownShare : (Cond.selects "MountTableModel" ({ cls := "MountTableModel", name := "shownShare", desc := "()F" } : MethodName) ({ cls := "MountTableModel", name := "shownShare", desc := "()F" } : MethodName)) ∈ mt_T := mt_m4 236 rfl rfl
theorem mw_co_X4_shownShare : (Cond.code ({ cls := "MountTableModel", name := "shownShare", desc := "()F" } : MethodName) prog_6_method_54_code (2 : Nat) (Option.some ClassFile.FieldType.float)) ∈ mt_T := mt_m4 237 rfl rfl
theorem mw_ml_L_202 : (Cond.methodLink "MountTableLaw" (202 : Nat) ({ cls := "MountTableModel", name := "meanSize", desc := "(I)D" } : MethodName)) ∈ mt_T := mt_m4 238 rfl rfl
theorem mw_im_X4_meanSize : (Cond.instanceMethod ({ cls := "MountTableModel", name := "meanSize", desc := "(I)D" } : MethodName)) ∈ mt_T := mt_m4 239 rfl rfl
theorem mw_se_X4_X4_meanSize : (Cond.selects "MountTableModel" ({ cls := "MountTableModel", name := "meanSize", desc := "(I)D" } : MethodName) ({ cls := "MountTableModel", name := "meanSize", desc := "(I)D" } : MethodName)) ∈ mt_T := mt_m5 0 rfl rfl
theorem mw_co_X4_meanSize : (Cond.code ({ cls := "MountTableModel", name := "meanSize", desc := "(I)D" } : MethodName) prog_6_method_55_code (4 : Nat) (Option.some ClassFile.FieldType.double)) ∈ mt_T := mt_m5 1 rfl rfl
theorem mw_ac_long : (Cond.arrayClass ClassFile.FieldType.long) ∈ mt_T := mt_m5 2 rfl rfl
theorem mw_ac_double : (Cond.arrayClass ClassFile.FieldType.double) ∈ mt_T := mt_m5 3 rfl rfl
theorem mw_ca_Jx00060_java_lang_IndexOutOfBoundsException : (Cond.castable "java/lang/ArrayIndexOutOfBoundsException" "java/lang/IndexOutOfBoundsException") ∈ mt_bw := mt_b5 5 rfl rfl
theorem mw_ca_X3_java_lang_Object : (Cond.castable "MountTable" "java/lang/Object") ∈ mt_bw := mt_b5 6 rfl rfl
theorem mw_ca_X4_java_lang_Object : (Cond.castable "MountTableModel" "java/lang/Object") ∈ mt_bw := mt_b5 7 rfl rfl
theorem mw_ca_java_lang_IllegalStateException_java_lang_Object : (Cond.castable "java/lang/IllegalStateException" "java/lang/Object") ∈ mt_bw := mt_b5 8 rfl rfl
theorem mw_ca_X1_java_lang_Object : (Cond.castable "MountTable$Layer" "java/lang/Object") ∈ mt_bw := mt_b5 9 rfl rfl
theorem mw_ca_Jx00060_java_lang_Object : (Cond.castable "java/lang/ArrayIndexOutOfBoundsException" "java/lang/Object") ∈ mt_bw := mt_b5 10 rfl rfl
theorem mw_ca_java_lang_IllegalArgumentException_java_lang_Object : (Cond.castable "java/lang/IllegalArgumentException" "java/lang/Object") ∈ mt_bw := mt_b5 11 rfl rfl
theorem mw_ca_java_lang_IndexOutOfBoundsException_java_lang_Object : (Cond.castable "java/lang/IndexOutOfBoundsException" "java/lang/Object") ∈ mt_bw := mt_b5 12 rfl rfl
theorem mw_ca_java_lang_UnsupportedOperationException_java_lang_Object : (Cond.castable "java/lang/UnsupportedOperationException" "java/lang/Object") ∈ mt_bw := mt_b5 13 rfl rfl
theorem mw_ca_X2_java_lang_Object : (Cond.castable "MountTable$Mount" "java/lang/Object") ∈ mt_bw := mt_b5 14 rfl rfl
theorem mw_ca_java_util_NoSuchElementException_java_lang_Object : (Cond.castable "java/util/NoSuchElementException" "java/lang/Object") ∈ mt_bw := mt_b5 15 rfl rfl
theorem mw_ca_X0_java_lang_Object : (Cond.castable "MountTable$Backup" "java/lang/Object") ∈ mt_bw := mt_b5 16 rfl rfl
theorem mw_ca_java_lang_ArithmeticException_java_lang_Object : (Cond.castable "java/lang/ArithmeticException" "java/lang/Object") ∈ mt_bw := mt_b5 17 rfl rfl
theorem mw_ca_java_lang_Throwable_java_lang_Object : (Cond.castable "java/lang/Throwable" "java/lang/Object") ∈ mt_bw := mt_b5 18 rfl rfl
theorem mw_ca_J0_java_lang_Object : (Cond.castable "java/lang/String" "java/lang/Object") ∈ mt_bw := mt_b5 19 rfl rfl
theorem mw_se_X3_X3_mountThere : (Cond.selects "MountTable" ⟨"MountTable", "mountThere", "(I)LMountTable$Mount;"⟩ ⟨"MountTable", "mountThere", "(I)LMountTable$Mount;"⟩) ∈ mt_T := mt_ms 0 rfl rfl
theorem mw_se_X3_X3_serverAt : (Cond.selects "MountTable" ⟨"MountTable", "serverAt", "(I)I"⟩ ⟨"MountTable", "serverAt", "(I)I"⟩) ∈ mt_T := mt_ms 1 rfl rfl
theorem mw_se_X3_X3_allBytes : (Cond.selects "MountTable" ⟨"MountTable", "allBytes", "()I"⟩ ⟨"MountTable", "allBytes", "()I"⟩) ∈ mt_T := mt_ms 2 rfl rfl
theorem mw_se_X3_X3_usedBy : (Cond.selects "MountTable" ⟨"MountTable", "usedBy", "(I)I"⟩ ⟨"MountTable", "usedBy", "(I)I"⟩) ∈ mt_T := mt_ms 3 rfl rfl
theorem mw_se_X3_X3_shownBytes : (Cond.selects "MountTable" ⟨"MountTable", "shownBytes", "()I"⟩ ⟨"MountTable", "shownBytes", "()I"⟩) ∈ mt_T := mt_ms 4 rfl rfl
theorem mw_se_X3_X3_layerAt : (Cond.selects "MountTable" ⟨"MountTable", "layerAt", "(I)LMountTable$Layer;"⟩ ⟨"MountTable", "layerAt", "(I)LMountTable$Layer;"⟩) ∈ mt_T := mt_ms 5 rfl rfl
theorem mw_se_X3_X3_layerShown : (Cond.selects "MountTable" ⟨"MountTable", "layerShown", "(I)I"⟩ ⟨"MountTable", "layerShown", "(I)I"⟩) ∈ mt_T := mt_ms 6 rfl rfl
theorem mw_se_X3_X3_restAt : (Cond.selects "MountTable" ⟨"MountTable", "restAt", "(I)I"⟩ ⟨"MountTable", "restAt", "(I)I"⟩) ∈ mt_T := mt_ms 7 rfl rfl
theorem mw_se_X3_X3_layerShownBy : (Cond.selects "MountTable" ⟨"MountTable", "layerShownBy", "(LMountTable$Mount;I)I"⟩ ⟨"MountTable", "layerShownBy", "(LMountTable$Mount;I)I"⟩) ∈ mt_T := mt_ms 8 rfl rfl
theorem mw_se_X3_X3_kindIn : (Cond.selects "MountTable" ⟨"MountTable", "kindIn", "(II)I"⟩ ⟨"MountTable", "kindIn", "(II)I"⟩) ∈ mt_T := mt_ms 9 rfl rfl
theorem mw_se_java_lang_Throwable_java_lang_Throwable_fillInStackTrace_I_Ljava_lang_Throwable_ : (Cond.selects "java/lang/Throwable" ⟨"java/lang/Throwable", "fillInStackTrace", "(I)Ljava/lang/Throwable;"⟩ ⟨"java/lang/Throwable", "fillInStackTrace", "(I)Ljava/lang/Throwable;"⟩) ∈ mt_T := mt_ms 10 rfl rfl
theorem mw_se_X3_X3_isUpperOfSome : (Cond.selects "MountTable" ⟨"MountTable", "isUpperOfSome", "(I)Z"⟩ ⟨"MountTable", "isUpperOfSome", "(I)Z"⟩) ∈ mt_T := mt_ms 11 rfl rfl
theorem mw_se_X3_X3_isInSome : (Cond.selects "MountTable" ⟨"MountTable", "isInSome", "(I)Z"⟩ ⟨"MountTable", "isInSome", "(I)Z"⟩) ∈ mt_T := mt_ms 12 rfl rfl
theorem mw_se_X3_X3_serveAgain : (Cond.selects "MountTable" ⟨"MountTable", "serveAgain", "()V"⟩ ⟨"MountTable", "serveAgain", "()V"⟩) ∈ mt_T := mt_ms 13 rfl rfl
theorem mw_se_X3_X3_serveBehind : (Cond.selects "MountTable" ⟨"MountTable", "serveBehind", "(II)V"⟩ ⟨"MountTable", "serveBehind", "(II)V"⟩) ∈ mt_T := mt_ms 14 rfl rfl
theorem mw_se_X3_X3_checkedMount : (Cond.selects "MountTable" ⟨"MountTable", "checkedMount", "(I)LMountTable$Mount;"⟩ ⟨"MountTable", "checkedMount", "(I)LMountTable$Mount;"⟩) ∈ mt_T := mt_ms 15 rfl rfl
theorem mw_se_X3_X3_layerToWrite : (Cond.selects "MountTable" ⟨"MountTable", "layerToWrite", "(I)LMountTable$Layer;"⟩ ⟨"MountTable", "layerToWrite", "(I)LMountTable$Layer;"⟩) ∈ mt_T := mt_ms 16 rfl rfl
theorem mw_se_X3_X3_quotaOf : (Cond.selects "MountTable" ⟨"MountTable", "quotaOf", "(I)I"⟩ ⟨"MountTable", "quotaOf", "(I)I"⟩) ∈ mt_T := mt_ms 17 rfl rfl
theorem mw_se_X3_X3_putAt : (Cond.selects "MountTable" ⟨"MountTable", "putAt", "(ILMountTable$Layer;III)V"⟩ ⟨"MountTable", "putAt", "(ILMountTable$Layer;III)V"⟩) ∈ mt_T := mt_ms 18 rfl rfl
theorem mw_se_X3_X3_change : (Cond.selects "MountTable" ⟨"MountTable", "change", "(LMountTable$Layer;IIII)V"⟩ ⟨"MountTable", "change", "(LMountTable$Layer;IIII)V"⟩) ∈ mt_T := mt_ms 19 rfl rfl
theorem mw_se_X3_X3_use : (Cond.selects "MountTable" ⟨"MountTable", "use", "(II)V"⟩ ⟨"MountTable", "use", "(II)V"⟩) ∈ mt_T := mt_ms 20 rfl rfl
theorem mw_se_X3_X3_checkedShown : (Cond.selects "MountTable" ⟨"MountTable", "checkedShown", "(I)LMountTable$Layer;"⟩ ⟨"MountTable", "checkedShown", "(I)LMountTable$Layer;"⟩) ∈ mt_T := mt_ms 21 rfl rfl
theorem mw_se_X3_X3_endOfLinks : (Cond.selects "MountTable" ⟨"MountTable", "endOfLinks", "(I)I"⟩ ⟨"MountTable", "endOfLinks", "(I)I"⟩) ∈ mt_T := mt_ms 22 rfl rfl
theorem mw_se_X3_X3_mayLead : (Cond.selects "MountTable" ⟨"MountTable", "mayLead", "(II)Z"⟩ ⟨"MountTable", "mayLead", "(II)Z"⟩) ∈ mt_T := mt_ms 23 rfl rfl
theorem mw_se_X3_X3_shownFileSize : (Cond.selects "MountTable" ⟨"MountTable", "shownFileSize", "(I)I"⟩ ⟨"MountTable", "shownFileSize", "(I)I"⟩) ∈ mt_T := mt_ms 24 rfl rfl
theorem mw_se_X3_X3_fileSizeIn : (Cond.selects "MountTable" ⟨"MountTable", "fileSizeIn", "(II)I"⟩ ⟨"MountTable", "fileSizeIn", "(II)I"⟩) ∈ mt_T := mt_ms 25 rfl rfl
theorem mw_se_X3_X3_checkedLayer : (Cond.selects "MountTable" ⟨"MountTable", "checkedLayer", "(I)LMountTable$Layer;"⟩ ⟨"MountTable", "checkedLayer", "(I)LMountTable$Layer;"⟩) ∈ mt_T := mt_ms 26 rfl rfl
theorem mw_se_X3_X3_sizeNow : (Cond.selects "MountTable" ⟨"MountTable", "sizeNow", "(ZI)I"⟩ ⟨"MountTable", "sizeNow", "(ZI)I"⟩) ∈ mt_T := mt_ms 27 rfl rfl
theorem mw_se_X3_X3_checkedBackup : (Cond.selects "MountTable" ⟨"MountTable", "checkedBackup", "(I)LMountTable$Backup;"⟩ ⟨"MountTable", "checkedBackup", "(I)LMountTable$Backup;"⟩) ∈ mt_T := mt_ms 28 rfl rfl
theorem mw_se_X4_X4_isLayer : (Cond.selects "MountTableModel" ⟨"MountTableModel", "isLayer", "(I)Z"⟩ ⟨"MountTableModel", "isLayer", "(I)Z"⟩) ∈ mt_T := mt_ms 29 rfl rfl
theorem mw_se_X4_X4_isUpper : (Cond.selects "MountTableModel" ⟨"MountTableModel", "isUpper", "(I)Z"⟩ ⟨"MountTableModel", "isUpper", "(I)Z"⟩) ∈ mt_T := mt_ms 30 rfl rfl
theorem mw_se_X4_X4_isUsed : (Cond.selects "MountTableModel" ⟨"MountTableModel", "isUsed", "(I)Z"⟩ ⟨"MountTableModel", "isUsed", "(I)Z"⟩) ∈ mt_T := mt_ms 31 rfl rfl
theorem mw_se_X4_X4_isMount : (Cond.selects "MountTableModel" ⟨"MountTableModel", "isMount", "(I)Z"⟩ ⟨"MountTableModel", "isMount", "(I)Z"⟩) ∈ mt_T := mt_ms 32 rfl rfl
theorem mw_se_X4_X4_servedBy : (Cond.selects "MountTableModel" ⟨"MountTableModel", "servedBy", "(I)I"⟩ ⟨"MountTableModel", "servedBy", "(I)I"⟩) ∈ mt_T := mt_ms 33 rfl rfl
theorem mw_se_X4_X4_canWrite : (Cond.selects "MountTableModel" ⟨"MountTableModel", "canWrite", "(I)Z"⟩ ⟨"MountTableModel", "canWrite", "(I)Z"⟩) ∈ mt_T := mt_ms 34 rfl rfl
theorem mw_se_X4_X4_target : (Cond.selects "MountTableModel" ⟨"MountTableModel", "target", "(I)I"⟩ ⟨"MountTableModel", "target", "(I)I"⟩) ∈ mt_T := mt_ms 35 rfl rfl
theorem mw_se_X4_X4_used : (Cond.selects "MountTableModel" ⟨"MountTableModel", "used", "(II)I"⟩ ⟨"MountTableModel", "used", "(II)I"⟩) ∈ mt_T := mt_ms 36 rfl rfl
theorem mw_se_X4_X4_puts : (Cond.selects "MountTableModel" ⟨"MountTableModel", "puts", "(IIII)V"⟩ ⟨"MountTableModel", "puts", "(IIII)V"⟩) ∈ mt_T := mt_ms 37 rfl rfl
theorem mw_se_X4_X4_shown : (Cond.selects "MountTableModel" ⟨"MountTableModel", "shown", "(I)I"⟩ ⟨"MountTableModel", "shown", "(I)I"⟩) ∈ mt_T := mt_ms 38 rfl rfl
theorem mw_se_X4_X4_asks : (Cond.selects "MountTableModel" ⟨"MountTableModel", "asks", "(I)Z"⟩ ⟨"MountTableModel", "asks", "(I)Z"⟩) ∈ mt_T := mt_ms 39 rfl rfl
theorem mw_se_X4_X4_asksShown : (Cond.selects "MountTableModel" ⟨"MountTableModel", "asksShown", "(I)Z"⟩ ⟨"MountTableModel", "asksShown", "(I)Z"⟩) ∈ mt_T := mt_ms 40 rfl rfl
theorem mw_se_X4_X4_bytesOfAll : (Cond.selects "MountTableModel" ⟨"MountTableModel", "bytesOfAll", "()I"⟩ ⟨"MountTableModel", "bytesOfAll", "()I"⟩) ∈ mt_T := mt_ms 41 rfl rfl
theorem mw_se_X4_X4_bytesShown : (Cond.selects "MountTableModel" ⟨"MountTableModel", "bytesShown", "()I"⟩ ⟨"MountTableModel", "bytesShown", "()I"⟩) ∈ mt_T := mt_ms 42 rfl rfl
theorem mw_se_X4_X4_count : (Cond.selects "MountTableModel" ⟨"MountTableModel", "count", "(II)I"⟩ ⟨"MountTableModel", "count", "(II)I"⟩) ∈ mt_T := mt_ms 43 rfl rfl
theorem mw_se_X4_X4_nowAt : (Cond.selects "MountTableModel" ⟨"MountTableModel", "nowAt", "(ZI)I"⟩ ⟨"MountTableModel", "nowAt", "(ZI)I"⟩) ∈ mt_T := mt_ms 44 rfl rfl
theorem mw_se_X4_X4_isBackup : (Cond.selects "MountTableModel" ⟨"MountTableModel", "isBackup", "(I)Z"⟩ ⟨"MountTableModel", "isBackup", "(I)Z"⟩) ∈ mt_T := mt_ms 45 rfl rfl
end
section
/-! the rows of this claim's own world: cells by id (w), the id's address (ad), all from z on -/
section MT
abbrev mt_G : Type := va_G × (Nat → ClassId)
def mt_tys (g : mt_G) : List (ClassId × FieldType) := [(g.2 0, .int), (g.2 1, .boolean), (g.2 2, .object "MountTable$Layer"), (g.2 3, .object "MountTable$Mount"), (g.2 4, .object "MountTable$Backup"), (g.2 5, .long), (g.2 6, .double)]
abbrev mt_w : Type := Nat → Option va_E
def mt_up (w : mt_w) (k : Nat) (e : va_E) : mt_w := fun b => if b = k then some e else w b
def mt_ua (ad : Nat → Nat) (k q : Nat) : Nat → Nat := fun b => if b = k then q else ad b
abbrev mt_A (z : Nat) : Nat → Prop := fun q => z ≤ q
def mt_W (g : mt_G) (z : Nat) (w : mt_w) (ad : Nat → Nat) (H : Heap) : Prop := (∀ (k : Nat) (e : va_E), w k = some e → va_at g.1 vwCl (ad k, e) H ∧ z ≤ ad k) ∧ ∀ (i j : Nat) (e f : va_E), w i = some e → w j = some f → ad i = ad j → i = j
theorem mt_W.one {g : mt_G} {z : Nat} {w : mt_w} {ad : Nat → Nat} {H : Heap} (h : mt_W g z w ad H) {k : Nat} {e : va_E} (hk : w k = some e) : va_P g.1 vwCl [(ad k, e)] H := fun i q hi => by
  match i, hi with
  | 0, hi => cases hi; exact (h.1 k e hk).1
  | i + 1, hi => simp at hi
theorem mt_W.set {g : mt_G} {z : Nat} {w : mt_w} {ad : Nat → Nat} {H H1 : Heap} (h : mt_W g z w ad H) {k : Nat} {e0 e : va_E} (hk : w k = some e0) (he : va_at g.1 vwCl (ad k, e) H1) (oq : ∀ q : Nat, q ≠ ad k → H1[q]? = H[q]?) : mt_W g z (mt_up w k e) ad H1 := by
  have key : ∀ (b : Nat) (x : va_E), mt_up w k e b = some x → ∃ y, w b = some y ∧ (b = k ∧ x = e ∨ b ≠ k ∧ y = x) := by
    intro b x hb
    unfold mt_up at hb
    by_cases hbk : b = k
    · rw [if_pos hbk] at hb; subst hbk; exact ⟨e0, hk, Or.inl ⟨rfl, (Option.some.inj hb).symm⟩⟩
    · rw [if_neg hbk] at hb; exact ⟨x, hb, Or.inr ⟨hbk, rfl⟩⟩
  refine ⟨fun b x hb => ?_, fun i j x y hi hj hij => ?_⟩
  · obtain ⟨y, h1, ⟨h2, h3⟩ | ⟨h2, h3⟩⟩ := key b x hb
    · subst h2; subst h3; exact ⟨he, (h.1 b y h1).2⟩
    · subst h3
      refine ⟨(h.1 b y h1).1.kept (oq _ fun e9 => h2 (h.2 b k y e0 h1 hk e9)), (h.1 b y h1).2⟩
  · obtain ⟨x', h1, -⟩ := key i x hi
    obtain ⟨y', h2, -⟩ := key j y hj
    exact h.2 i j x' y' h1 h2 hij
theorem mt_W.add {g : mt_G} {z : Nat} {w : mt_w} {ad : Nat → Nat} {H H1 : Heap} (h : mt_W g z w ad H) {k : Nat} {e : va_E} (hk : w k = none) (hz : z ≤ H.size) (he : va_at g.1 vwCl (H.size, e) H1) (oq : ∀ q : Nat, q < H.size → H1[q]? = H[q]?) : mt_W g z (mt_up w k e) (mt_ua ad k H.size) H1 := by
  have key : ∀ (b : Nat) (x : va_E), mt_up w k e b = some x → (b = k ∧ x = e ∧ mt_ua ad k H.size b = H.size) ∨ (b ≠ k ∧ w b = some x ∧ mt_ua ad k H.size b = ad b ∧ ad b < H.size) := by
    intro b x hb
    unfold mt_up at hb
    by_cases hbk : b = k
    · rw [if_pos hbk] at hb; exact Or.inl ⟨hbk, (Option.some.inj hb).symm, by unfold mt_ua; rw [if_pos hbk]⟩
    · rw [if_neg hbk] at hb; exact Or.inr ⟨hbk, hb, by unfold mt_ua; rw [if_neg hbk], (h.1 b x hb).1.lt⟩
  refine ⟨fun b x hb => ?_, fun i j x y hi hj hij => ?_⟩
  · rcases key b x hb with ⟨h1, h2, h3⟩ | ⟨h1, h2, h3, h4⟩
    · rw [h3, h2]; exact ⟨he, hz⟩
    · rw [h3]; exact ⟨(h.1 b x h2).1.kept (oq _ h4), (h.1 b x h2).2⟩
  · rcases key i x hi with ⟨h1, -, h3⟩ | ⟨h1, h2, h3, h4⟩ <;> rcases key j y hj with ⟨g1, -, g3⟩ | ⟨g1, g2, g3, g4⟩
    · rw [h1, g1]
    · rw [h3, g3] at hij; omega
    · rw [h3, g3] at hij; omega
    · rw [h3, g3] at hij; exact h.2 i j x y h2 g2 hij
theorem mt_W.grow {g : mt_G} {z : Nat} {w : mt_w} {ad : Nat → Nat} {H H1 : Heap} (h : mt_W g z w ad H) (oq : ∀ q : Nat, q < H.size → H1[q]? = H[q]?) : mt_W g z w ad H1 :=
  ⟨fun b x hb => ⟨(h.1 b x hb).1.kept (oq _ (h.1 b x hb).1.lt), (h.1 b x hb).2⟩, h.2⟩
/-- what stays true of the tables, the statics of Throwable and the texts -/
def mt_C (g : mt_G) (z : Nat) (U : State) : Prop := va_K g.1 vwCl (mt_tys g) U ∧ z ≤ U.heap.size ∧ vx_Zq Bundle.tN "UNASSIGNED_STACK" Bundle.steD (mt_A z) U U.heap ∧ vx_Zq Bundle.tN "SUPPRESSED_SENTINEL" Bundle.listD (mt_A z) U U.heap ∧ (∀ q ∈ mt_strs, ∃ a : Nat, vk_R q.1 q.2.1 q.2.2 a U) ∧ (∀ w ∈ mt_bw, va_Nw w U) ∧ (∀ q ∈ mt_nc, va_Nc q.1 q.2 U) ∧ ∀ C ∈ mt_ao, va_AO C U
theorem mt_bwm {w : Cond} (h : mt_bk w = true) {s U : State} (hW : s.WarmedH U.vm) (hZ : va_Nw w s) : va_Nw w U := by
  cases w <;> first | exact Bool.noConfusion (show false = true from h) | exact hZ.warmF hW | exact hZ.warmM hW | exact hZ.warmC hW | exact hZ.warmD hW
theorem mt_bwt {w : Cond} (h : mt_bk w = true) : w.onTables = true := by
  cases w <;> first | exact Bool.noConfusion (show false = true from h) | rfl
theorem mt_C.go {g : mt_G} {z : Nat} {s U : State} {H : Heap} {locs : List Loc} (h : mt_C g z s) (hS : va_S (mt_A z) s.heap H locs) (hU : U.heap = H) (hW : s.WarmedH U.vm) : mt_C g z U := by
  obtain ⟨h1, h2, h3, h4, h5, h6, h7, h8⟩ := h
  refine ⟨va_K.moved hW.alike h1, by rw [hU]; exact Nat.le_trans h2 hS.1, ?_, ?_, fun q hq => ?_, fun q hq => mt_bwm (List.mem_filter.mp hq).2 hW (h6 q hq), fun q hq => (h7 q hq).moved hW.alike, fun q hq => (h8 q hq).moved hW.alike⟩
  · rw [hU]; exact (h3.moved hW.alike).kept hS.2.1
  · rw [hU]; exact (h4.moved hW.alike).kept hS.2.1
  · obtain ⟨a, ha⟩ := h5 q hq
    exact ⟨a, ha.warm hW⟩
theorem mt_C.calling {g : mt_G} {z : Nat} {U : State} {f : JFrame} {mk : MethodId} {a : Array Value} (h : mt_C g z U) : mt_C g z (U.calling f mk a) := by
  obtain ⟨h1, h2, h3, h4, h5, h6, h7, h8⟩ := h
  have hA : U.vm.Alike (U.calling f mk a).vm := Vm.Alike.refl U.vm
  exact ⟨va_K.moved (u := U) (U := U.calling f mk a) hA h1, h2, vx_Zq.moved (u := U) (U := U.calling f mk a) hA h3, vx_Zq.moved (u := U) (U := U.calling f mk a) hA h4, fun q hq => by
    obtain ⟨a9, ha⟩ := h5 q hq
    exact ⟨a9, ha.same rfl⟩, fun q hq => va_Nw.same (u := U) (U := U.calling f mk a) (mt_bwt (List.mem_filter.mp hq).2) rfl (h6 q hq), fun q hq => (h7 q hq).moved hA, fun q hq => (h8 q hq).moved hA⟩
abbrev mt_R : Type := String ⊕ Option Value
def mt_Q (g : mt_G) (z : Nat) (w : mt_w) (ad : Nat → Nat) (res : mt_R) : Array Value → State → Outcome → State → Prop := fun _ st o t => ∃ v, res = .inr v ∧ o = .returned v ∧ mt_W g z w ad t.heap ∧ va_F (mt_A z) st t
def mt_X (g : mt_G) (z : Nat) (w : mt_w) (ad : Nat → Nat) (res : mt_R) : String → State → State → Prop := fun E st t => res = .inl E ∧ mt_W g z w ad t.heap ∧ va_F (mt_A z) st t
abbrev mt_Pc (g : mt_G) (z : Nat) (av : List Value) (w : mt_w) (ad : Nat → Nat) : Array Value → State → Prop := va_Pc av (fun U => mt_C g z U ∧ mt_W g z w ad U.heap)
/-- a method's contract: from the world (w, ad), with these arguments, it answers (or throws) res, and the world is (w', ad') -/
def mt_K (l : Launch) (g : mt_G) (z : Nat) (y : MethodName) (cc : ByteArray) (maxL : Nat) (ret : Option FieldType) (fr lo mc ms : Nat) (av : List Value) (w : mt_w) (ad : Nat → Nat) (res : mt_R) (w' : mt_w) (ad' : Nat → Nat) : Prop :=
  vx_Met l y (Cond.code y cc maxL ret :: mt_T) ({ frames := fr, cells := mc, slots := ms, locals := lo }) (mt_Pc g z av w ad) (mt_Q g z w' ad' res) (mt_X g z w' ad' res) mc ms (mt_A z)
theorem mt_blind {g : mt_G} {z : Nat} {av : List Value} {w : mt_w} {ad : Nat → Nat} : FrameBlind (mt_Pc g z av w ad) := fun a U f mk q => ⟨q.1, q.2.1.calling, q.2.2⟩
/-- what a caller needs of a callee's words -/
def mt_pV (y : MethodName) (cc : ByteArray) (maxL : Nat) (ret : Option FieldType) (n : Nat) : Prop := Cond.instanceMethod y ∈ mt_T ∧ Cond.selects y.cls y y ∈ mt_T ∧ Cond.initialized y.cls ∈ mt_T ∧ Cond.code y cc maxL ret ∈ mt_T ∧ y.cls ≠ "java/lang/invoke/MethodHandle" ∧ y.cls ≠ "java/lang/invoke/VarHandle" ∧ (parseMethodDescriptor y.desc).map (fun d => d.parameters.length) = some n
def mt_pS (y : MethodName) (cc : ByteArray) (maxL : Nat) (ret : Option FieldType) (n : Nat) : Prop := Cond.static y ∈ mt_T ∧ Cond.initialized y.cls ∈ mt_T ∧ Cond.code y cc maxL ret ∈ mt_T ∧ y.cls ≠ "java/lang/invoke/MethodHandle" ∧ y.cls ≠ "java/lang/invoke/VarHandle" ∧ (parseMethodDescriptor y.desc).map (fun d => d.parameters.length) = some n
theorem mt_good {w : Cond} (h : w ∈ mt_T) : goodWord w = true := (List.mem_filter.mp h).2
theorem mt_in {w0 : Cond} {ws : List Cond} (h : ∀ w ∈ ws, w ∈ mt_T) : GoodIn (w0 :: mt_T) ws := fun w hw => ⟨List.mem_cons_of_mem _ (h w hw), good_of_word (mt_good (h w hw))⟩
theorem mt_inV {w0 : Cond} {own : String} {idx : Nat} {y : MethodName} {cc : ByteArray} {maxL : Nat} {ret : Option FieldType} {n : Nat} (P : mt_pV y cc maxL ret n) (hl : Cond.methodLink own idx y ∈ mt_T) : GoodIn (w0 :: mt_T) (wsV own idx y.cls y (Cond.code y cc maxL ret :: mt_T)) := mt_in fun w hw => by
  obtain ⟨h1, h2, h3, h4, -⟩ := P
  rcases List.mem_append.mp hw with h | h
  · rcases List.mem_cons.mp h with rfl | h
    · exact hl
    · rcases List.mem_cons.mp h with rfl | h
      · exact h1
      · rcases List.mem_cons.mp h with rfl | h
        · exact h2
        · rcases List.mem_cons.mp h with rfl | h
          · exact h3
          · cases h
  · rcases List.mem_cons.mp h with rfl | h
    · exact h4
    · exact h
theorem mt_inS {w0 : Cond} {own : String} {idx : Nat} {y : MethodName} {cc : ByteArray} {maxL : Nat} {ret : Option FieldType} {n : Nat} (P : mt_pS y cc maxL ret n) (hl : Cond.methodLink own idx y ∈ mt_T) : GoodIn (w0 :: mt_T) (va_wsS own idx y (Cond.code y cc maxL ret :: mt_T)) := mt_in fun w hw => by
  obtain ⟨h1, h2, h3, -⟩ := P
  rcases List.mem_append.mp hw with h | h
  · rcases List.mem_cons.mp h with rfl | h
    · exact hl
    · rcases List.mem_cons.mp h with rfl | h
      · exact h1
      · rcases List.mem_cons.mp h with rfl | h
        · exact h2
        · cases h
  · rcases List.mem_cons.mp h with rfl | h
    · exact h3
    · exact h
end MT
end
section
section MTR
variable {p : Program} {l : Launch} {e : Env} {R : Room} {s : State} {m : MethodId} {args : Array Value} {below : List Frame} {meth : Method} {c : Code} {H : Heap} {locs : List Loc} {cells slots : Nat} {Q : State → Prop}
variable {cc : ByteArray} {nL pc : Nat} {ls : Array Slot} {rest : List Value} {g : mt_G} {z : Nat} {w : mt_w} {ad : Nat → Nat} {w0 : Cond} {own : String}
/-- a field read -/
theorem mt_get {ref C : String} {T : u_T} {N ci index : Nat} (S : CallFix p m c cc nL s args (w0 :: mt_T) own) (hin : ∀ w ∈ u_ws C T N, w ∈ mt_T) (hC : mt_C g z s) (hW : mt_W g z w ad H) {k : Nat} {fs : List Value} (he : w k = some (.inr (ci, fs))) (hc : vwCl[ci]? = some (C, T, N)) (j : Nat) (hj : j < N) (hlink : (Cond.fieldLink own index ref (T j).2.1 (T j).2.2.1) ∈ mt_T) (href : ref = (T j).1) {v : Value} (hv : fs[j]? = some v) (hdg : decode cc pc = .ok (.getfield index, 3))
    (kk : W p l e R s m args below meth c H locs cells slots Q (F0 m (pc + 3) ls (v :: rest))) : W p l e R s m args below meth c H locs cells slots Q (F0 m pc ls (.ref (ad k) :: rest)) := by
  obtain ⟨hx, hb, -, hown, hts⟩ := S
  subst href
  exact va_get hx hb (Ts := w0 :: mt_T) hts (fun x h => List.mem_cons_of_mem _ (hin x h)) hown hC.1 (hW.one he) 0 rfl hc j hj (hts _ (List.mem_cons_of_mem _ hlink)) (fun _ h => h) hv hdg kk
/-- .. of a nest mate -/
theorem mt_getN {ref C host : String} {T : u_T} {N ci index : Nat} (S : CallFix p m c cc nL s args (w0 :: mt_T) own) (hin : ∀ w ∈ u_ws C T N, w ∈ mt_T) (hC : mt_C g z s) (hW : mt_W g z w ad H) {k : Nat} {fs : List Value} (he : w k = some (.inr (ci, fs))) (hc : vwCl[ci]? = some (C, T, N)) (j : Nat) (hj : j < N) (hlink : (Cond.fieldLinkNest own index ref (T j).2.1 (T j).2.2.1 host) ∈ mt_bw) (href : ref = (T j).1) {v : Value} (hv : fs[j]? = some v) (hdg : decode cc pc = .ok (.getfield index, 3))
    (kk : W p l e R s m args below meth c H locs cells slots Q (F0 m (pc + 3) ls (v :: rest))) : W p l e R s m args below meth c H locs cells slots Q (F0 m pc ls (.ref (ad k) :: rest)) := by
  obtain ⟨hx, hb, -, hown, hts⟩ := S
  subst href
  have hl := va_Nw.use (A := args) rfl (hC.2.2.2.2.2.1 _ hlink)
  exact va_getN hx hb (Ts := w0 :: mt_T) hts (fun x h => List.mem_cons_of_mem _ (hin x h)) hown hC.1 (hW.one he) 0 rfl hc j hj hl (fun _ h => h) hv hdg kk
/-- what a store's law needs of the tables -/
theorem mt_fact {C : String} {T : u_T} {N ci : Nat} (S : CallFix p m c cc nL s args (w0 :: mt_T) own) (hin : ∀ w ∈ u_ws C T N, w ∈ mt_T) (ty0 : Nat → FieldType) (hty : ∀ k, k < N → parseFieldDescriptor (T k).2.2.1 = some (ty0 k)) (hnm : ∀ a, a < N → ∀ b, b < N → a ≠ b → (T a).2.1 ≠ (T b).2.1) (hC : mt_C g z s) (hc : vwCl[ci]? = some (C, T, N)) (hW : mt_W g z w ad H) {k : Nat} {fs : List Value} (he : w k = some (.inr (ci, fs))) (j : Nat) (hj : j < N) (hl : j < fs.length) {v : Value} (hd : parseFieldDescriptor (T j).2.2.1 = some (ty0 j)) (hn : narrow (ty0 j) v = v) (hfit : fits (ty0 j) v = true) :
    ∃ (cf : ClassId) (kf : Class) (fi : Nat) (f : Field) (cell : Cell), s.fieldFound? (T j).1 (T j).2.1 (T j).2.2.1 = some (cf, kf, fi, f) ∧ f.isStatic = false ∧ H[ad k]? = some cell ∧ cell.vm = .none ∧ f.slot < cell.slots.size ∧ (u_lay C T j).before args s = true ∧ ClassAt s C cell.cls ∧ ∀ H1 : Heap, H1[ad k]? = some (cell.setSlot f.slot v) → (∀ q : Nat, q ≠ ad k → H1[q]? = H[q]?) → mt_W g z (mt_up w k (.inr (ci, fs.set j v))) ad H1 := by
  obtain ⟨hx, hb, -, hown, hts⟩ := S
  have hap := va_apart (own := own) (args := args) (s := s) (Ts := w0 :: mt_T) hts (fun x h => List.mem_cons_of_mem _ (hin x h)) ty0 hty hnm hC.1 hc
  obtain ⟨⟨r, h1, cell, q1, q2, q3, q4⟩, hz⟩ := hW.1 k _ he
  have hr : r = (C, T, N) := Option.some.inj (h1.symm.trans hc)
  subst hr
  obtain ⟨hS, hfc, kC, hkC, hkind⟩ := hC.1.1 ci _ hc
  obtain ⟨cf, kf, fi, f, hi, hsl⟩ := hS j hj
  have hlay := hts _ (List.mem_cons_of_mem _ (hin _ (u_in_lay hj)))
  have hst := (u_facts hfc hkC (u_lays hts (fun x h => List.mem_cons_of_mem _ (hin x h)) hj) hi).1
  refine ⟨cf, kf, fi, f, cell, hi, hst, q1, q3, by rw [hsl]; exact k2_hasslot (q4 j hj), hlay, by rw [q2]; exact ⟨hfc, kC, hkC, hkind⟩, fun H1 e1 e3 => ?_⟩
  rw [hsl] at e1
  exact hW.set he ⟨_, hc, t_OB.to (V := updV (vp_V fs) j v) ⟨_, e1, q2, q3, t_set q4 hap hj v⟩ (fun i _ => vp_updV_set hl v i)⟩ e3
/-- a field stored -/
theorem mt_put {ref C : String} {T : u_T} {N ci index : Nat} (S : CallFix p m c cc nL s args (w0 :: mt_T) own) (hin : ∀ w ∈ u_ws C T N, w ∈ mt_T) (ty0 : Nat → FieldType) (hty : ∀ k, k < N → parseFieldDescriptor (T k).2.2.1 = some (ty0 k)) (hnm : ∀ a, a < N → ∀ b, b < N → a ≠ b → (T a).2.1 ≠ (T b).2.1) (hC : mt_C g z s) (hW : mt_W g z w ad H) (hS : va_S (mt_A z) s.heap H locs) {k : Nat} {fs : List Value} (he : w k = some (.inr (ci, fs))) (hc : vwCl[ci]? = some (C, T, N)) (j : Nat) (hj : j < N) (hlink : (Cond.fieldLink own index ref (T j).2.1 (T j).2.2.1) ∈ mt_T) (href : ref = (T j).1) (hfin : (T j).2.2.2 = false) {v : Value} (hn : narrow (ty0 j) v = v) (hfit : fits (ty0 j) v = true) (hl : j < fs.length) (hdg : decode cc pc = .ok (.putfield index, 3))
    (kk : ∀ (H1 : Heap) (locs1 : List Loc), mt_W g z (mt_up w k (.inr (ci, fs.set j v))) ad H1 → va_S (mt_A z) s.heap H1 locs1 → W p l e R s m args below meth c H1 locs1 cells slots Q (F0 m (pc + 3) ls rest)) : W p l e R s m args below meth c H locs cells slots Q (F0 m pc ls (v :: .ref (ad k) :: rest)) := by
  obtain ⟨cf, kf, fi, f, cell, hi, hst, q1, q3, q4, hlay, ⟨g1, kC, g2, g3⟩, q5⟩ := mt_fact S hin ty0 hty hnm hC hc hW he j hj hl (hty j hj) hn hfit
  obtain ⟨hx, hb, -, hown, hts⟩ := S
  subst href
  unfold u_lay at hlay
  rw [if_neg (by rw [hfin]; decide)] at hlay
  have h6 := u_store g1 g2 g3 hlay hi (hty j hj) hn hfit
  exact W.putK hx hb (f := f) ⟨hown, hts _ (List.mem_cons_of_mem _ hlink), ⟨_, _, _, hi⟩, hst⟩ h6 q1 q3 q4 rfl rfl hdg fun H' e1 e2 e3 => kk H' _ (q5 H' e1 e3) (hS.put e2 e3 (hW.1 k _ he).2)
/-- .. of a nest mate -/
theorem mt_putN {ref C host : String} {T : u_T} {N ci index : Nat} (S : CallFix p m c cc nL s args (w0 :: mt_T) own) (hin : ∀ w ∈ u_ws C T N, w ∈ mt_T) (ty0 : Nat → FieldType) (hty : ∀ k, k < N → parseFieldDescriptor (T k).2.2.1 = some (ty0 k)) (hnm : ∀ a, a < N → ∀ b, b < N → a ≠ b → (T a).2.1 ≠ (T b).2.1) (hC : mt_C g z s) (hW : mt_W g z w ad H) (hS : va_S (mt_A z) s.heap H locs) {k : Nat} {fs : List Value} (he : w k = some (.inr (ci, fs))) (hc : vwCl[ci]? = some (C, T, N)) (j : Nat) (hj : j < N) (hlink : (Cond.fieldLinkNest own index ref (T j).2.1 (T j).2.2.1 host) ∈ mt_bw) (href : ref = (T j).1) (hfin : (T j).2.2.2 = false) {v : Value} (hn : narrow (ty0 j) v = v) (hfit : fits (ty0 j) v = true) (hl : j < fs.length) (hdg : decode cc pc = .ok (.putfield index, 3))
    (kk : ∀ (H1 : Heap) (locs1 : List Loc), mt_W g z (mt_up w k (.inr (ci, fs.set j v))) ad H1 → va_S (mt_A z) s.heap H1 locs1 → W p l e R s m args below meth c H1 locs1 cells slots Q (F0 m (pc + 3) ls rest)) : W p l e R s m args below meth c H locs cells slots Q (F0 m pc ls (v :: .ref (ad k) :: rest)) := by
  obtain ⟨cf, kf, fi, f, cell, hi, hst, q1, q3, q4, hlay, ⟨g1, kC, g2, g3⟩, q5⟩ := mt_fact S hin ty0 hty hnm hC hc hW he j hj hl (hty j hj) hn hfit
  obtain ⟨hx, hb, -, hown, hts⟩ := S
  subst href
  unfold u_lay at hlay
  rw [if_neg (by rw [hfin]; decide)] at hlay
  have h6 := u_store g1 g2 g3 hlay hi (hty j hj) hn hfit
  have hl9 := va_Nw.use (A := args) rfl (hC.2.2.2.2.2.1 _ hlink)
  exact va_WputK hx hb (f := f) hown hl9 hi hst h6 q1 q3 q4 rfl rfl hdg fun H' e1 e2 e3 => kk H' _ (q5 H' e1 e3) (hS.put e2 e3 (hW.1 k _ he).2)
/-- a final field stored by the constructor -/
theorem mt_putF {ref C : String} {T : u_T} {N ci index : Nat} (S : CallFix p m c cc nL s args (w0 :: mt_T) own) (hin : ∀ w ∈ u_ws C T N, w ∈ mt_T) (ty0 : Nat → FieldType) (hty : ∀ k, k < N → parseFieldDescriptor (T k).2.2.1 = some (ty0 k)) (hnm : ∀ a, a < N → ∀ b, b < N → a ≠ b → (T a).2.1 ≠ (T b).2.1) (hC : mt_C g z s) (hW : mt_W g z w ad H) (hS : va_S (mt_A z) s.heap H locs) (hin2 : meth.name = "<init>") {k : Nat} {fs : List Value} (he : w k = some (.inr (ci, fs))) (hc : vwCl[ci]? = some (C, T, N)) (j : Nat) (hj : j < N) (hlink : (Cond.fieldLink own index ref (T j).2.1 (T j).2.2.1) ∈ mt_T) (href : ref = (T j).1) (hdecl : (T j).1 = own) (hfin : (T j).2.2.2 = true) {v : Value} (hn : narrow (ty0 j) v = v) (hfit : fits (ty0 j) v = true) (hl : j < fs.length) (hdg : decode cc pc = .ok (.putfield index, 3))
    (kk : ∀ (H1 : Heap) (locs1 : List Loc), mt_W g z (mt_up w k (.inr (ci, fs.set j v))) ad H1 → va_S (mt_A z) s.heap H1 locs1 → W p l e R s m args below meth c H1 locs1 cells slots Q (F0 m (pc + 3) ls rest)) : W p l e R s m args below meth c H locs cells slots Q (F0 m pc ls (v :: .ref (ad k) :: rest)) := by
  obtain ⟨cf, kf, fi, f, cell, hi, hst, q1, q3, q4, hlay, ⟨g1, kC, g2, g3⟩, q5⟩ := mt_fact S hin ty0 hty hnm hC hc hW he j hj hl (hty j hj) hn hfit
  obtain ⟨hx, hb, -, hown, hts⟩ := S
  subst href
  unfold u_lay at hlay
  rw [if_pos hfin] at hlay
  have hcf : m.cls = cf := by
    obtain ⟨_, _, c', _, _, _, -, -, hf', -, -, -, hown2, -⟩ := Cond.laysFinal_spec hlay
    have e1 : c' = cf := by have := hi.symm.trans hf'; simp at this; exact this.1.symm
    rw [hdecl] at hown2
    rw [← e1]; exact Option.some.inj (hown.symm.trans hown2)
  have h6 := u_fits g1 g2 g3 (Or.inr hlay) hi (hty j hj) hn hfit
  exact W.putFinK hx hb hown (hts _ (List.mem_cons_of_mem _ hlink)) hi hst hcf hin2 h6 q1 q3 q4 rfl rfl hdg fun H' e1 e2 e3 => kk H' _ (q5 H' e1 e3) (hS.put e2 e3 (hW.1 k _ he).2)
/-- arrays read -/
theorem mt_iald (S : CallFix p m c cc nL s args (w0 :: mt_T) own) (hC : mt_C g z s) (hW : mt_W g z w ad H) {k n : Nat} {f : Nat → Int32} (he : w k = some (.inl (g.2 0, n, .inl f))) {i : Int32} (hin : vp_in i n) (hdg : decode cc pc = .ok (.iaload, 1))
    (kk : W p l e R s m args below meth c H locs cells slots Q (F0 m (pc + 1) ls (.int (f i.toNatClampNeg) :: rest))) : W p l e R s m args below meth c H locs cells slots Q (F0 m pc ls (.int i :: .ref (ad k) :: rest)) :=
  va_iald S.1 S.2.1 hC.1 (hW.one he) 0 0 rfl rfl hin hdg kk
theorem mt_zald (S : CallFix p m c cc nL s args (w0 :: mt_T) own) (hC : mt_C g z s) (hW : mt_W g z w ad H) {k n : Nat} {f : Nat → Int32} (he : w k = some (.inl (g.2 1, n, .inl f))) {i : Int32} (hin : vp_in i n) (hdg : decode cc pc = .ok (.baload, 1))
    (kk : W p l e R s m args below meth c H locs cells slots Q (F0 m (pc + 1) ls (.int (f i.toNatClampNeg) :: rest))) : W p l e R s m args below meth c H locs cells slots Q (F0 m pc ls (.int i :: .ref (ad k) :: rest)) :=
  va_zald S.1 S.2.1 hC.1 (hW.one he) 0 1 rfl rfl hin hdg kk
theorem mt_aald (S : CallFix p m c cc nL s args (w0 :: mt_T) own) (hC : mt_C g z s) (hW : mt_W g z w ad H) (t : Nat) {C : String} (ht : (mt_tys g)[t]? = some (g.2 t, .object C)) {k n : Nat} {f : Nat → Option Nat} (he : w k = some (.inl (g.2 t, n, .inr (.inr (.inr (.inr f)))))) {i : Int32} (hin : vp_in i n) (hdg : decode cc pc = .ok (.aaload, 1))
    (kk : W p l e R s m args below meth c H locs cells slots Q (F0 m (pc + 1) ls (va_rf (f i.toNatClampNeg) :: rest))) : W p l e R s m args below meth c H locs cells slots Q (F0 m pc ls (.int i :: .ref (ad k) :: rest)) :=
  va_aldq S.1 S.2.1 hC.1 (hW.one he) 0 t rfl ht hin hdg kk
theorem mt_lald (S : CallFix p m c cc nL s args (w0 :: mt_T) own) (hC : mt_C g z s) (hW : mt_W g z w ad H) {k n : Nat} {f : Nat → Int64} (he : w k = some (.inl (g.2 5, n, .inr (.inl f)))) {i : Int32} (hin : vp_in i n) (hdg : decode cc pc = .ok (.laload, 1))
    (kk : W p l e R s m args below meth c H locs cells slots Q (F0 m (pc + 1) ls (.long (f i.toNatClampNeg) :: rest))) : W p l e R s m args below meth c H locs cells slots Q (F0 m pc ls (.int i :: .ref (ad k) :: rest)) :=
  va_lald S.1 S.2.1 hC.1 (hW.one he) 0 5 rfl rfl hin hdg kk
theorem mt_dald (S : CallFix p m c cc nL s args (w0 :: mt_T) own) (hC : mt_C g z s) (hW : mt_W g z w ad H) {k n : Nat} {f : Nat → UInt64} (he : w k = some (.inl (g.2 6, n, .inr (.inr (.inr (.inl f)))))) {i : Int32} (hin : vp_in i n) (hdg : decode cc pc = .ok (.daload, 1))
    (kk : W p l e R s m args below meth c H locs cells slots Q (F0 m (pc + 1) ls (.double (f i.toNatClampNeg) :: rest))) : W p l e R s m args below meth c H locs cells slots Q (F0 m pc ls (.int i :: .ref (ad k) :: rest)) :=
  va_dald S.1 S.2.1 hC.1 (hW.one he) 0 6 rfl rfl hin hdg kk
theorem mt_alen (S : CallFix p m c cc nL s args (w0 :: mt_T) own) (hC : mt_C g z s) (hW : mt_W g z w ad H) (t : Nat) {ty : FieldType} (ht : (mt_tys g)[t]? = some (g.2 t, ty)) {k : Nat} {x : vp_A} (he : w k = some (.inl (g.2 t, x))) {v : Int32} (hv : Int32.ofNat x.1 = v) (hdg : decode cc pc = .ok (.arraylength, 1))
    (kk : W p l e R s m args below meth c H locs cells slots Q (F0 m (pc + 1) ls (.int v :: rest))) : W p l e R s m args below meth c H locs cells slots Q (F0 m pc ls (.ref (ad k) :: rest)) :=
  va_alen S.1 S.2.1 hC.1 (hW.one he) 0 t rfl ht hv hdg kk
/-- arrays stored -/
theorem mt_iast (S : CallFix p m c cc nL s args (w0 :: mt_T) own) (hC : mt_C g z s) (hW : mt_W g z w ad H) (hS : va_S (mt_A z) s.heap H locs) {k n : Nat} {f : Nat → Int32} (he : w k = some (.inl (g.2 0, n, .inl f))) {i x : Int32} (hin : vp_in i n) (hdg : decode cc pc = .ok (.iastore, 1))
    (kk : ∀ (H1 : Heap) (locs1 : List Loc), mt_W g z (mt_up w k (.inl (g.2 0, n, .inl (upd f i.toNatClampNeg x)))) ad H1 → va_S (mt_A z) s.heap H1 locs1 → W p l e R s m args below meth c H1 locs1 cells slots Q (F0 m (pc + 1) ls rest)) : W p l e R s m args below meth c H locs cells slots Q (F0 m pc ls (.int x :: .int i :: .ref (ad k) :: rest)) := by
  refine W.iast S.1 S.2.1 (hW.1 k _ he).1 ((hC.1.2 0 (g.2 0, .int) rfl).1 n (fun j => .int (f j))) (fun q => by cases q) (by show ¬ (i < 0 ∨ (arrV _ _ _).slots.size ≤ _); rw [arrV_size]; exact hin) rfl rfl hdg fun H1 e z1 oq => ?_
  refine kk H1 _ (hW.set he ?_ oq) (hS.put z1 oq (hW.1 k _ he).2)
  show H1[ad k]? = some (vp_cell _ _)
  rw [e]
  rw [vp_cell_i, vp_cell_i, arrV_store]
  congr 2
  funext q
  by_cases hq : q = i.toNatClampNeg
  · subst hq
    simp [updV, upd]
  · simp [updV, upd, hq]
theorem mt_zast (S : CallFix p m c cc nL s args (w0 :: mt_T) own) (hC : mt_C g z s) (hW : mt_W g z w ad H) (hS : va_S (mt_A z) s.heap H locs) {k n : Nat} {f : Nat → Int32} (he : w k = some (.inl (g.2 1, n, .inl f))) {i x : Int32} (hin : vp_in i n) (hnx : narrow .boolean (.int x) = .int x) (hdg : decode cc pc = .ok (.bastore, 1))
    (kk : ∀ (H1 : Heap) (locs1 : List Loc), mt_W g z (mt_up w k (.inl (g.2 1, n, .inl (upd f i.toNatClampNeg x)))) ad H1 → va_S (mt_A z) s.heap H1 locs1 → W p l e R s m args below meth c H1 locs1 cells slots Q (F0 m (pc + 1) ls rest)) : W p l e R s m args below meth c H locs cells slots Q (F0 m pc ls (.int x :: .int i :: .ref (ad k) :: rest)) := by
  refine W.zast S.1 S.2.1 (hW.1 k _ he).1 ((hC.1.2 1 (g.2 1, .boolean) rfl).1 n (fun j => .int (f j))) (fun q => by cases q) (by show ¬ (i < 0 ∨ (arrV _ _ _).slots.size ≤ _); rw [arrV_size]; exact hin) rfl rfl hdg fun H1 e z1 oq => ?_
  refine kk H1 _ (hW.set he ?_ oq) (hS.put z1 oq (hW.1 k _ he).2)
  show H1[ad k]? = some (vp_cell _ _)
  rw [e]
  rw [vp_cell_i, vp_cell_i, arrV_store]
  congr 2
  funext q
  by_cases hq : q = i.toNatClampNeg
  · subst hq
    simp [updV, upd, hnx]
  · simp [updV, upd, hq]
theorem mt_last (S : CallFix p m c cc nL s args (w0 :: mt_T) own) (hC : mt_C g z s) (hW : mt_W g z w ad H) (hS : va_S (mt_A z) s.heap H locs) {k n : Nat} {f : Nat → Int64} (he : w k = some (.inl (g.2 5, n, .inr (.inl f)))) {i : Int32} {x : Int64} (hin : vp_in i n) (hdg : decode cc pc = .ok (.lastore, 1))
    (kk : ∀ (H1 : Heap) (locs1 : List Loc), mt_W g z (mt_up w k (.inl (g.2 5, n, .inr (.inl (vp_updL f i.toNatClampNeg x))))) ad H1 → va_S (mt_A z) s.heap H1 locs1 → W p l e R s m args below meth c H1 locs1 cells slots Q (F0 m (pc + 1) ls rest)) : W p l e R s m args below meth c H locs cells slots Q (F0 m pc ls (.long x :: .int i :: .ref (ad k) :: rest)) := by
  refine W.last S.1 S.2.1 (hW.1 k _ he).1 ((hC.1.2 5 (g.2 5, .long) rfl).1 n (fun j => .long (f j))) (fun q => by cases q) (by show ¬ (i < 0 ∨ (arrV _ _ _).slots.size ≤ _); rw [arrV_size]; exact hin) rfl rfl hdg fun H1 e z1 oq => ?_
  refine kk H1 _ (hW.set he ?_ oq) (hS.put z1 oq (hW.1 k _ he).2)
  show H1[ad k]? = some (vp_cell _ _)
  rw [e]
  rw [vp_cell_l, vp_cell_l, arrV_store]
  congr 2
  funext q
  by_cases hq : q = i.toNatClampNeg
  · subst hq
    simp [updV, vp_updL]
  · simp [updV, vp_updL, hq]
theorem mt_dast (S : CallFix p m c cc nL s args (w0 :: mt_T) own) (hC : mt_C g z s) (hW : mt_W g z w ad H) (hS : va_S (mt_A z) s.heap H locs) {k n : Nat} {f : Nat → UInt64} (he : w k = some (.inl (g.2 6, n, .inr (.inr (.inr (.inl f)))))) {i : Int32} {x : UInt64} (hin : vp_in i n) (hdg : decode cc pc = .ok (.dastore, 1))
    (kk : ∀ (H1 : Heap) (locs1 : List Loc), mt_W g z (mt_up w k (.inl (g.2 6, n, .inr (.inr (.inr (.inl (va_up f i.toNatClampNeg x))))))) ad H1 → va_S (mt_A z) s.heap H1 locs1 → W p l e R s m args below meth c H1 locs1 cells slots Q (F0 m (pc + 1) ls rest)) : W p l e R s m args below meth c H locs cells slots Q (F0 m pc ls (.double x :: .int i :: .ref (ad k) :: rest)) := by
  refine W.dast S.1 S.2.1 (hW.1 k _ he).1 ((hC.1.2 6 (g.2 6, .double) rfl).1 n (fun j => .double (f j))) (fun q => by cases q) (by show ¬ (i < 0 ∨ (arrV _ _ _).slots.size ≤ _); rw [arrV_size]; exact hin) rfl rfl hdg fun H1 e z1 oq => ?_
  refine kk H1 _ (hW.set he ?_ oq) (hS.put z1 oq (hW.1 k _ he).2)
  show H1[ad k]? = some (vp_cell _ _)
  rw [e]
  rw [vp_cell_d, vp_cell_d, arrV_store]
  congr 2
  funext q
  by_cases hq : q = i.toNatClampNeg
  · subst hq
    simp [updV, va_up]
  · simp [updV, va_up, hq]
theorem mt_aast (S : CallFix p m c cc nL s args (w0 :: mt_T) own) (hC : mt_C g z s) (hW : mt_W g z w ad H) (hS : va_S (mt_A z) s.heap H locs) (t ci : Nat) {r : vw_C} (ht : (mt_tys g)[t]? = some (g.2 t, .object r.1)) (hc : vwCl[ci]? = some r) {k k2 n : Nat} {f : Nat → Option Nat} {vs : List Value} (he : w k = some (.inl (g.2 t, n, .inr (.inr (.inr (.inr f)))))) (hv : w k2 = some (.inr (ci, vs))) {i : Int32} (hin : vp_in i n) (hdg : decode cc pc = .ok (.aastore, 1))
    (kk : ∀ (H1 : Heap) (locs1 : List Loc), mt_W g z (mt_up w k (.inl (g.2 t, n, .inr (.inr (.inr (.inr (va_up f i.toNatClampNeg (some (ad k2)))))))))  ad H1 → va_S (mt_A z) s.heap H1 locs1 → W p l e R s m args below meth c H1 locs1 cells slots Q (F0 m (pc + 1) ls rest)) : W p l e R s m args below meth c H locs cells slots Q (F0 m pc ls (.ref (ad k2) :: .int i :: .ref (ad k) :: rest)) := by
  have hlt : i.toNatClampNeg < n := Nat.not_le.mp fun q => hin (Or.inr q)
  have h0 : ¬ i < 0 := fun q => hin (Or.inl q)
  obtain ⟨⟨r', hr', cellV, g1, g2, g3, -⟩, -⟩ := hW.1 k2 _ hv
  have hcls := (hC.1.1 ci r hc).2
  obtain ⟨kA, comp, k1, k2', k3, -⟩ := (hC.1.2 t _ ht).2
  have hcomp : comp = g.1.1 ci := Option.some.inj (k3.symm.trans hcls.1)
  subst hcomp
  obtain ⟨kC, hkC, -⟩ := hcls.2
  refine W.aast S.1 S.2.1 (hW.1 k _ he).1 (fun q h => by cases h) (fun h => by cases h) k1 k2' rfl hkC ⟨h0, by show _ < (arrV _ _ _).slots.size; rw [arrV_size]; exact hlt⟩ g1 (fun q h => by rw [g3] at h; cases h) (by rw [g2]; exact hkC) (by rw [g2]; exact va_assign hcls) rfl rfl hdg fun H1 e z1 oq => ?_
  refine kk H1 _ (hW.set he ?_ oq) (hS.put z1 oq (hW.1 k _ he).2)
  show H1[ad k]? = some (vp_cell _ _)
  rw [e]
  rw [vp_cell_q, vp_cell_q, arrV_store]
  congr 2
  funext q
  by_cases hq : q = i.toNatClampNeg
  · subst hq
    simp [updV, va_up, va_rf]
  · simp [updV, va_up, hq]
/-- what is made -/
theorem mt_newa (S : CallFix p m c cc nL s args (w0 :: mt_T) own) (hC : mt_C g z s) (hW : mt_W g z w ad H) (hS : va_S (mt_A z) s.heap H locs) (t : Nat) {atype : ArrayType} {ty : FieldType} (hty : newarray.typeOf atype = ty) (harr : (Cond.arrayClass ty) ∈ mt_T) (ht : (mt_tys g)[t]? = some (g.2 t, ty)) (hna : ∀ C, ty ≠ .object C) (k : Nat) (hk : w k = none) {n : Int32} {N' : Nat} {a0 : vp_A} (ha : ∀ cA : ClassId, vp_cell cA a0 = arrV cA N' (fun _ => defaultValue ty)) (hn : ¬ n < 0) (hN : n.toNatClampNeg = N') (hbytes : N' * componentBytes ty ≤ 536870912) (hcells : cells + 1 ≤ R.cells) (hslots : slots + N' ≤ R.slots) (hdg : decode cc pc = .ok (.newarray atype, 2))
    (kk : ∀ (q : Nat) (H1 : Heap), mt_W g z (mt_up w k (.inl (g.2 t, a0))) (mt_ua ad k q) H1 → va_S (mt_A z) s.heap H1 locs → W p l e R s m args below meth c H1 locs (cells + 1) (slots + N') Q (F0 m (pc + 2) ls (.ref q :: rest))) : W p l e R s m args below meth c H locs cells slots Q (F0 m pc ls (.int n :: rest)) := by
  obtain ⟨hx, hb, -, hown, hts⟩ := S
  subst hty
  have hzH : z ≤ H.size := Nat.le_trans hC.2.1 hS.1
  refine va_newaK hx hb (hts _ (List.mem_cons_of_mem _ harr)) rfl hdg rfl hn hN hbytes hcells hslots rfl fun H1 cA e1 z1 o1 hAr hNm => ?_
  have hcA : cA = g.2 t := by
    have h9 := (hC.1.2 t _ ht).2
    have h8 : s.vm.findClass ("[" ++ (newarray.typeOf atype).toString) = some (g.2 t) := by
      cases atype <;> exact h9
    exact Option.some.inj (hNm.symm.trans h8)
  subst hcA
  refine kk H.size H1 (hW.add hk hzH ?_ o1) ⟨Nat.le_trans hS.1 (by omega), fun x h1 h2 => (o1 x (Nat.lt_of_lt_of_le h1 hS.1)).trans (hS.2.1 x h1 h2), hS.2.2⟩
  show H1[H.size]? = some (vp_cell _ _)
  rw [ha]
  exact e1
theorem mt_newq (S : CallFix p m c cc nL s args (w0 :: mt_T) own) (hC : mt_C g z s) (hW : mt_W g z w ad H) (hS : va_S (mt_A z) s.heap H locs) (t : Nat) {C : String} {index : Nat} (hclink : (Cond.classLink own index C) ∈ mt_T) (hover : (Cond.arrayOver (.object C)) ∈ mt_T) (ht : (mt_tys g)[t]? = some (g.2 t, .object C)) (k : Nat) (hk : w k = none) {n : Int32} {N' : Nat} (hn : ¬ n < 0) (hN : n.toNatClampNeg = N') (hbytes : N' * 4 ≤ 536870912) (hcells : cells + 1 ≤ R.cells) (hslots : slots + N' ≤ R.slots) (hdg : decode cc pc = .ok (.anewarray index, 3))
    (kk : ∀ (q : Nat) (H1 : Heap), mt_W g z (mt_up w k (.inl (g.2 t, N', .inr (.inr (.inr (.inr (fun _ => none))))))) (mt_ua ad k q) H1 → va_S (mt_A z) s.heap H1 locs → W p l e R s m args below meth c H1 locs (cells + 1) (slots + N') Q (F0 m (pc + 3) ls (.ref q :: rest))) : W p l e R s m args below meth c H locs cells slots Q (F0 m pc ls (.int n :: rest)) := by
  obtain ⟨hx, hb, -, hown, hts⟩ := S
  subst hN
  have hzH : z ≤ H.size := Nat.le_trans hC.2.1 hS.1
  refine W.anew hx hb hown (hts _ (List.mem_cons_of_mem _ hclink)) (hts _ (List.mem_cons_of_mem _ hover)) rfl hdg rfl hn hbytes hcells hslots fun cA kA comp f1 f2 f3 f4 => ?_
  generalize hH1 : H.push ({ cls := cA, slots := Array.replicate n.toNatClampNeg .null, vm := .none } : Cell) = H1
  have z1 : H1.size = H.size + 1 := by rw [← hH1, Array.size_push]
  have e1 : H1[H.size]? = some (arrV cA n.toNatClampNeg (fun _ => .null)) := by rw [← hH1, Array.getElem?_push_size, ← arrV_new]
  have o1 : ∀ q : Nat, q < H.size → H1[q]? = H[q]? := fun q hq => by rw [← hH1, Array.getElem?_push, if_neg (Nat.ne_of_lt hq)]
  have hcA : cA = g.2 t := by
    obtain ⟨kA9, comp9, -, -, -, h9⟩ := (hC.1.2 t _ ht).2
    exact Option.some.inj (f1.symm.trans h9)
  subst hcA
  refine kk H.size H1 (hW.add hk hzH ?_ o1) ⟨Nat.le_trans hS.1 (by omega), fun x h1 h2 => (o1 x (Nat.lt_of_lt_of_le h1 hS.1)).trans (hS.2.1 x h1 h2), hS.2.2⟩
  show H1[H.size]? = some (vp_cell _ _)
  rw [vp_cell_q]
  exact e1
theorem mt_new {C : String} {T : u_T} {N ci index : Nat} (S : CallFix p m c cc nL s args (w0 :: mt_T) own) (hin : ∀ w ∈ u_ws C T N, w ∈ mt_T) (ty : Nat → FieldType) (hty : ∀ k, k < N → parseFieldDescriptor (T k).2.2.1 = some (ty k)) (hC : mt_C g z s) (hW : mt_W g z w ad H) (hS : va_S (mt_A z) s.heap H locs) (hcl : (Cond.classLink own index C) ∈ mt_T) (hinst : (Cond.instantiable C N) ∈ mt_T) (hini : (Cond.initialized C) ∈ mt_T) (hc : vwCl[ci]? = some (C, T, N)) (k : Nat) (hk : w k = none) {fs : List Value} (hfs : ∀ j, j < N → defaultValue (ty j) = vp_V fs j) (hcells : cells + 1 ≤ R.cells) (hslots : slots + N ≤ R.slots) (hdg : decode cc pc = .ok (.new index, 3))
    (kk : ∀ (q : Nat) (H1 : Heap), mt_W g z (mt_up w k (.inr (ci, fs))) (mt_ua ad k q) H1 → va_S (mt_A z) s.heap H1 locs → W p l e R s m args below meth c H1 locs (cells + 1) (slots + N) Q (F0 m (pc + 3) ls (.ref q :: rest))) : W p l e R s m args below meth c H locs cells slots Q (F0 m pc ls rest) := by
  obtain ⟨hx, hb, -, hown, hts⟩ := S
  have hzH : z ≤ H.size := Nat.le_trans hC.2.1 hS.1
  have hKn := hC.1.1 ci _ hc
  refine W.newcK hx hb hown (hts _ (List.mem_cons_of_mem _ hcl)) (hts _ (List.mem_cons_of_mem _ hinst)) (hts _ (List.mem_cons_of_mem _ hini)) rfl hdg hcells hslots hKn.2.1 rfl fun H1 kC hkC e1 z1 o1 => ?_
  refine kk H.size H1 (hW.add hk hzH ?_ o1) ⟨Nat.le_trans hS.1 (by omega), fun x h1 h2 => (o1 x (Nat.lt_of_lt_of_le h1 hS.1)).trans (hS.2.1 x h1 h2), hS.2.2⟩
  exact ⟨_, hc, (u_born ty (ws := w0 :: mt_T) hts (fun x h => List.mem_cons_of_mem _ (hin x h)) hKn hkC e1 hty).to hfs⟩
theorem mt_objInit (S : CallFix p m c cc nL s args (w0 :: mt_T) own) {idx q : Nat} (h1 : (Cond.methodLink own idx objectInit) ∈ mt_T) (h2 : (Cond.instanceMethod objectInit) ∈ mt_T) (h3 : (Cond.code objectInit ⟨#[0xb1]⟩ 1 none) ∈ mt_T) (hl : ls.size = nL) (hcat : (rest.map fun v => v.category).sum ≤ 8) (hdg : decode cc pc = .ok (.invokespecial idx, 3)) (hR : 1 ≤ R.frames ∧ 20 ≤ R.locals)
    (kk : W p l e R s m args below meth c H locs cells slots Q (F0 m (pc + 3) ls rest)) : W p l e R s m args below meth c H locs cells slots Q (F0 m pc ls (.ref q :: rest)) := by
  obtain ⟨hx, hb, hml, hown, hts⟩ := S
  refine W.objInit hx hb hown (hts _ (List.mem_cons_of_mem _ h1)) (hts _ (List.mem_cons_of_mem _ h2)) (hts _ (List.mem_cons_of_mem _ h3)) rfl (hl.trans hml.symm) rfl hdg hR.1 ?_ kk
  show 0 + (rest.map fun v => v.category).sum + 12 ≤ R.locals
  omega
end MTR
end
section
section MTE
variable {p : Program} {l : Launch} {e : Env} {R : Room} {s : State} {m : MethodId} {args : Array Value} {below : List Frame} {meth : Method} {c : Code} {H : Heap} {locs : List Loc} {cells slots : Nat} {Q : State → Prop}
variable {cc : ByteArray} {nL pc : Nat} {ls : Array Slot} {rest st0 : List Value} {g : mt_G} {z : Nat} {w w' : mt_w} {ad ad' : Nat → Nat} {w0 : Cond} {own : String} {res : mt_R} {mc ms : Nat}
abbrev mt_E (below : List Frame) (g : mt_G) (z : Nat) (w : mt_w) (ad : Nat → Nat) (res : mt_R) (args : Array Value) (s : State) (mc ms : Nat) : State → Prop := vx_MQ below (mt_Q g z w ad res) (mt_X g z w ad res) args s mc ms (mt_A z)
/-- a method's start -/
theorem mt_ofW {y : MethodName} {maxL fr lo : Nat} {ret : Option FieldType} {av : List Value} (hy : plainName y.cls = true) (hlen : (lg_sl av).length ≤ maxL)
    (body : ∀ (p : Program) (e : Env) (s : State) (m : MethodId) (args : Array Value) (below : List Frame) (meth : Method) (c : Code), CallFix p m c cc maxL s args (Cond.code y cc maxL ret :: mt_T) y.cls → meth.sig.returnType = ret → meth.locks = false → meth.name = y.name → (∀ x ∈ c.exceptionTable.toList, False) → mt_C g z s → mt_W g z w ad s.heap → va_S (mt_A z) s.heap s.heap [] → ∀ ls : Array Slot, lv_has ls maxL (lv_args 0 av) →
      W p l e ({ frames := fr, cells := mc, slots := ms, locals := lo } : Room) s m args below meth c s.heap [] 0 0 (mt_E below g z w' ad' res args s mc ms) (F0 m 0 ls [])) : mt_K l g z y cc maxL ret fr lo mc ms av w ad res w' ad' := by
  refine vx_ofW hy rfl ?_
  intro p e s m args below meth c s₁ B hml ht hv
  obtain ⟨rfl, hC, hW⟩ := hv
  have hl := lv_entry av hlen
  rw [lg_entry_eq]
  exact body p e s m _ below meth c ⟨B.exec, B.bytes, hml, findClass_of_methodNamed B.named, atoms_spec (ws := Cond.code y cc maxL ret :: mt_T) B.pre⟩ B.returns B.notSynchronized (name_of_methodNamed B.named B.method).1 ht hC hW va_S.rf _ hl
/-- its ends -/
theorem mt_ri {v : Int32} (S : CallFix p m c cc nL s args (w0 :: mt_T) own) (hr : meth.sig.returnType = some .int) (hk : meth.locks = false) (hW : mt_W g z w ad H) (hS : va_S (mt_A z) s.heap H locs) (hres : res = .inr (some (.int v))) (hc : cells ≤ mc) (hs : slots ≤ ms) (hdg : decode cc pc = .ok (.ireturn, 1)) : W p l e R s m args below meth c H locs cells slots (mt_E below g z w ad res args s mc ms) (F0 m pc ls [.int v]) :=
  W.widen hc hs (vx_ret (W.iret S.1 S.2.1 hr (fun t ht _ => ⟨_, hres, rfl, by rw [ht]; exact hW, hS.F ht⟩) hS.2.2 hdg hk))
theorem mt_rz {v : Int32} {ty : FieldType} (S : CallFix p m c cc nL s args (w0 :: mt_T) own) (hr : meth.sig.returnType = some ty) (hk : meth.locks = false) (hn : narrow ty (.int v) = .int v) (hW : mt_W g z w ad H) (hS : va_S (mt_A z) s.heap H locs) (hres : res = .inr (some (.int v))) (hc : cells ≤ mc) (hs : slots ≤ ms) (hdg : decode cc pc = .ok (.ireturn, 1)) : W p l e R s m args below meth c H locs cells slots (mt_E below g z w ad res args s mc ms) (F0 m pc ls [.int v]) :=
  W.widen hc hs (vx_ret (W.zret S.1 S.2.1 hr hn (fun t ht _ => ⟨_, hres, rfl, by rw [ht]; exact hW, hS.F ht⟩) hS.2.2 hdg hk))
theorem mt_rv (S : CallFix p m c cc nL s args (w0 :: mt_T) own) (hr : meth.sig.returnType = none) (hk : meth.locks = false) (hW : mt_W g z w ad H) (hS : va_S (mt_A z) s.heap H locs) (hres : res = .inr none) (hc : cells ≤ mc) (hs : slots ≤ ms) (hdg : decode cc pc = .ok (.return_, 1)) : W p l e R s m args below meth c H locs cells slots (mt_E below g z w ad res args s mc ms) (F0 m pc ls []) :=
  W.widen hc hs (vx_ret (W.vret S.1 S.2.1 hr (fun t ht _ => ⟨_, hres, rfl, by rw [ht]; exact hW, hS.F ht⟩) hS.2.2 hdg hk))
theorem mt_ra {v : Value} {C : String} (S : CallFix p m c cc nL s args (w0 :: mt_T) own) (hr : meth.sig.returnType = some (.object C)) (hk : meth.locks = false) (hv : v = .null ∨ ∃ a, v = .ref a) (hW : mt_W g z w ad H) (hS : va_S (mt_A z) s.heap H locs) (hres : res = .inr (some v)) (hc : cells ≤ mc) (hs : slots ≤ ms) (hdg : decode cc pc = .ok (.areturn, 1)) : W p l e R s m args below meth c H locs cells slots (mt_E below g z w ad res args s mc ms) (F0 m pc ls [v]) :=
  W.widen hc hs (vx_ret (W.aret S.1 S.2.1 hr (Or.inl ⟨_, rfl⟩) hv (fun t ht _ => ⟨_, hres, rfl, by rw [ht]; exact hW, hS.F ht⟩) hS.2.2 hdg hk))
theorem mt_rd {v : UInt64} (S : CallFix p m c cc nL s args (w0 :: mt_T) own) (hr : meth.sig.returnType = some .double) (hk : meth.locks = false) (hW : mt_W g z w ad H) (hS : va_S (mt_A z) s.heap H locs) (hres : res = .inr (some (.double v))) (hc : cells ≤ mc) (hs : slots ≤ ms) (hdg : decode cc pc = .ok (.dreturn, 1)) : W p l e R s m args below meth c H locs cells slots (mt_E below g z w ad res args s mc ms) (F0 m pc ls [.double v]) :=
  W.widen hc hs (vx_ret (W.dret S.1 S.2.1 hr (fun t ht _ => ⟨_, hres, rfl, by rw [ht]; exact hW, hS.F ht⟩) hS.2.2 hdg hk))
theorem mt_rf {v : UInt32} (S : CallFix p m c cc nL s args (w0 :: mt_T) own) (hr : meth.sig.returnType = some .float) (hk : meth.locks = false) (hW : mt_W g z w ad H) (hS : va_S (mt_A z) s.heap H locs) (hres : res = .inr (some (.float v))) (hc : cells ≤ mc) (hs : slots ≤ ms) (hdg : decode cc pc = .ok (.freturn, 1)) : W p l e R s m args below meth c H locs cells slots (mt_E below g z w ad res args s mc ms) (F0 m pc ls [.float v]) :=
  W.widen hc hs (vx_ret (W.fret S.1 S.2.1 hr (fun t ht _ => ⟨_, hres, rfl, by rw [ht]; exact hW, hS.F ht⟩) hS.2.2 hdg hk))
/-- a throw goes on to the caller -/
theorem mt_out {E : String} {ce : Cell} {q : Addr} (hout : ∀ x ∈ c.exceptionTable.toList, False) (hk : meth.locks = false) (hW : mt_W g z w ad H) (hS : va_S (mt_A z) s.heap H locs) (hres : res = .inl E) (hcell : H[q]? = some ce) (hv : ce.vm = .none) (hcl : s.vm.findClass E = some ce.cls) (hc : cells ≤ mc) (hs : slots ≤ ms) : vx_W p l e R s m args below meth c H locs cells slots (mt_E below g z w ad res args s mc ms) (F0 m pc ls rest) q :=
  vx_out (fun x hx => (hout x hx).elim) hk hcell hv hcl (fun t ht _ => ⟨hres, by rw [ht]; exact hW, hS.F ht⟩) hS.2.2 hc hs
/-- the same call, of a virtual method: it returns, or throws -/
theorem mt_cV0 {index : Nat} {y : MethodName} {bytes : ByteArray} {maxL : Nat} {ret : Option FieldType} {n fr lo mc1 ms1 : Nat} {b : Addr} {As : List Value} {w1 : mt_w} {ad1 : Nat → Nat} {r1 : mt_R} {ci k : Nat} {fs : List Value} {vc : vw_C}
    (S : CallFix p m c cc nL s args (w0 :: mt_T) own) (P : mt_pV y bytes maxL ret n) (hlink : Cond.methodLink own index y ∈ mt_T) (hM : mt_K l g z y bytes maxL ret fr lo mc1 ms1 (.ref b :: As) w ad r1 w1 ad1) (hC : mt_C g z s) (hW : mt_W g z w ad H) (hS : va_S (mt_A z) s.heap H locs)
    (hb : b = ad k) (hrecv : w k = some (.inr (ci, fs))) (hci : vwCl[ci]? = some vc) (hcl : vc.1 = y.cls) (hn : As.length = n) (hl : ls.size = nL) (hst : st0 = As.reverse ++ .ref b :: rest) (hcat : (rest.map fun v => v.category).sum ≤ 8) (hdg : decode cc pc = .ok (.invokevirtual index, 3)) (hR : fr + 1 ≤ R.frames ∧ 8 + (maxL + 11) + lo ≤ R.locals) (hf : cells + mc1 ≤ R.cells ∧ slots + ms1 ≤ R.slots)
    (kk : ∀ (H1 : Heap) (locs1 : List Loc) (v : Option Value), r1 = .inr v → mt_W g z w1 ad1 H1 → va_S (mt_A z) s.heap H1 locs1 → W p l e R s m args below meth c H1 locs1 (cells + mc1) (slots + ms1) Q (F0 m (pc + 3) ls (v.toList ++ rest)))
    (kx : ∀ (H1 : Heap) (locs1 : List Loc) (E : String) (q : Addr) (ce : Cell), r1 = .inl E → mt_W g z w1 ad1 H1 → va_S (mt_A z) s.heap H1 locs1 → H1[q]? = some ce → ce.vm = .none → s.vm.findClass E = some ce.cls → vx_W p l e R s m args below meth c H1 locs1 (cells + mc1) (slots + ms1) Q (F0 m pc ls rest) q) :
    W p l e R s m args below meth c H locs cells slots Q (F0 m pc ls st0) := by
  subst hst
  obtain ⟨P1, P2, P3, P4, P5, P6, P7⟩ := id P
  have hcw := cwV (R := R) (s := s) (args := args) (own := own) (C := y.cls) (rm := { frames := fr, cells := mc1, slots := ms1, locals := lo }) (mc := mc1) (ms := ms1) n S.2.2.2.2 (mt_inV P hlink) rfl rfl rfl ⟨rfl, P5, P6, P7⟩ hR
  have hrv := va_recv hC.1 (hW.one hrecv) (ci := ci) (q0 := 0) hci rfl
  have hr := vx_runV (rest := rest) (g := F0 m pc ls (As.reverse ++ .ref b :: rest)) (cells := cells) (slots := slots) (locs := locs) (below := below) (meth := meth) (e := e) (H := H) S hM hcw ⟨mt_blind, by rw [hb, ← hcl]; exact hrv, fun U hU hW9 => ⟨rfl, hC.go hS hU hW9, by rw [hU]; exact hW⟩⟩ rfl hn hl rfl (lv_room hcat) hdg hf
  intro T hT X
  rcases hr T hT X with ⟨v, st₀, t, T', L, h0, X', hL, e1, e2, ⟨v', hv1, hv2, hw1, hF⟩, st⟩ | ⟨q, st₀, t, T', L, E, ce, h0, X', hL, e1, e2, ⟨hx1, hw1, hF⟩, hce, hcv, hcl, st⟩
  · obtain ⟨k1, k2, k3⟩ := vx_keep h0 e1 hS (fun _ _ h => h) (fun _ h => h) hL hF
    have hvv : v = v' := by cases hv2; rfl
    subst hvv
    obtain ⟨t2, a1, b1⟩ := kk T'.heap (locs ++ L) v hv1 (by rw [e1]; exact hw1) k3 T' rfl X'
    exact ⟨t2, st t2 a1, b1⟩
  · obtain ⟨k1, k2, k3⟩ := vx_keep h0 e1 hS (fun _ _ h => h) (fun _ h => h) hL hF
    obtain ⟨t2, a1, b1⟩ := kx T'.heap (locs ++ L) E q ce hx1 (by rw [e1]; exact hw1) k3 (by rw [e1]; exact hce) hcv hcl T' rfl X'
    exact ⟨t2, st.trans a1, b1⟩
/-- .. of a static method -/
theorem mt_cS0 {index : Nat} {y : MethodName} {bytes : ByteArray} {maxL : Nat} {ret : Option FieldType} {n fr lo mc1 ms1 : Nat} {As : List Value} {w1 : mt_w} {ad1 : Nat → Nat} {r1 : mt_R}
    (S : CallFix p m c cc nL s args (w0 :: mt_T) own) (P : mt_pS y bytes maxL ret n) (hlink : Cond.methodLink own index y ∈ mt_T) (hM : mt_K l g z y bytes maxL ret fr lo mc1 ms1 As w ad r1 w1 ad1) (hC : mt_C g z s) (hW : mt_W g z w ad H) (hS : va_S (mt_A z) s.heap H locs)
    (hn : As.length = n) (hl : ls.size = nL) (hst : st0 = As.reverse ++ rest) (hcat : (rest.map fun v => v.category).sum ≤ 8) (hdg : decode cc pc = .ok (.invokestatic index, 3)) (hR : fr + 1 ≤ R.frames ∧ 8 + (maxL + 11) + lo ≤ R.locals) (hf : cells + mc1 ≤ R.cells ∧ slots + ms1 ≤ R.slots)
    (kk : ∀ (H1 : Heap) (locs1 : List Loc) (v : Option Value), r1 = .inr v → mt_W g z w1 ad1 H1 → va_S (mt_A z) s.heap H1 locs1 → W p l e R s m args below meth c H1 locs1 (cells + mc1) (slots + ms1) Q (F0 m (pc + 3) ls (v.toList ++ rest)))
    (kx : ∀ (H1 : Heap) (locs1 : List Loc) (E : String) (q : Addr) (ce : Cell), r1 = .inl E → mt_W g z w1 ad1 H1 → va_S (mt_A z) s.heap H1 locs1 → H1[q]? = some ce → ce.vm = .none → s.vm.findClass E = some ce.cls → vx_W p l e R s m args below meth c H1 locs1 (cells + mc1) (slots + ms1) Q (F0 m pc ls rest) q) :
    W p l e R s m args below meth c H locs cells slots Q (F0 m pc ls st0) := by
  subst hst
  obtain ⟨P1, P2, P3, P4, P5, P6⟩ := id P
  have hcw := va_cwS (R := R) (s := s) (args := args) (own := own) (rm := { frames := fr, cells := mc1, slots := ms1, locals := lo }) (mc := mc1) (ms := ms1) n S.2.2.2.2 (mt_inS P hlink) rfl rfl rfl ⟨P4, P5, P6⟩ hR
  have hr := vx_runS (rest := rest) (g := F0 m pc ls (As.reverse ++ rest)) (cells := cells) (slots := slots) (locs := locs) (below := below) (meth := meth) (e := e) (H := H) S hM hcw ⟨mt_blind, fun U hU hW9 => ⟨rfl, hC.go hS hU hW9, by rw [hU]; exact hW⟩⟩ rfl hn hl rfl (lv_room hcat) hdg hf
  intro T hT X
  rcases hr T hT X with ⟨v, st₀, t, T', L, h0, X', hL, e1, e2, ⟨v', hv1, hv2, hw1, hF⟩, st⟩ | ⟨q, st₀, t, T', L, E, ce, h0, X', hL, e1, e2, ⟨hx1, hw1, hF⟩, hce, hcv, hcl, st⟩
  · obtain ⟨k1, k2, k3⟩ := vx_keep h0 e1 hS (fun _ _ h => h) (fun _ h => h) hL hF
    have hvv : v = v' := by cases hv2; rfl
    subst hvv
    obtain ⟨t2, a1, b1⟩ := kk T'.heap (locs ++ L) v hv1 (by rw [e1]; exact hw1) k3 T' rfl X'
    exact ⟨t2, st t2 a1, b1⟩
  · obtain ⟨k1, k2, k3⟩ := vx_keep h0 e1 hS (fun _ _ h => h) (fun _ h => h) hL hF
    obtain ⟨t2, a1, b1⟩ := kx T'.heap (locs ++ L) E q ce hx1 (by rw [e1]; exact hw1) k3 (by rw [e1]; exact hce) hcv hcl T' rfl X'
    exact ⟨t2, st.trans a1, b1⟩
end MTE
end
section
/-! 'throw new E(text)' of a class whose constructor names its superclass's by any index (java.util.NoSuchElementException of JDK 17: 13); follows the library's ctorThrowS (index 7) and the kit's vx_throwS -/
section MTX
def mt_oa (own : String) (ic : Nat) (X : String) (ix : Nat) (rx : ByteArray) (Y : String) (r : List String) : List Cond :=
  (Bundle.throwableAtoms ++ Bundle.throwableSAtoms) ++ ((Bundle.passSAtoms X Y ix rx ++ Bundle.chainSAtoms Y r) ++
  ([.methodLink own ic (Bundle.initS X), .instantiable X 6, .castable X X, .selects X Bundle.tFill0 Bundle.tFill0, .selects X Bundle.tFill Bundle.tFill,
   .lays X Bundle.tN "cause" "Ljava/lang/Throwable;", .lays X Bundle.tN "stackTrace" Bundle.steD, .lays X Bundle.tN "suppressedExceptions" Bundle.listD, .lays X Bundle.tN "detailMessage" "Ljava/lang/String;",
   .isRef (.static Bundle.tN "UNASSIGNED_STACK" Bundle.steD), .isRef (.static Bundle.tN "SUPPRESSED_SENTINEL" Bundle.listD),
   .fieldLink Bundle.tN 198 Bundle.tN "backtrace" "Ljava/lang/Object;", .lays Bundle.tN Bundle.tN "backtrace" "Ljava/lang/Object;", .lays X Bundle.tN "backtrace" "Ljava/lang/Object;"] : List Cond))
theorem mt_oa1 {own : String} {ic : Nat} {X : String} {ix : Nat} {rx : ByteArray} {Y : String} {r : List String} {w : Cond} (h : w ∈ Bundle.throwableAtoms ++ Bundle.throwableSAtoms) : w ∈ mt_oa own ic X ix rx Y r := List.mem_append_left _ h
theorem mt_oa2 {own : String} {ic : Nat} {X : String} {ix : Nat} {rx : ByteArray} {Y : String} {r : List String} {w : Cond} (h : w ∈ Bundle.passSAtoms X Y ix rx) : w ∈ mt_oa own ic X ix rx Y r := List.mem_append_right _ (List.mem_append_left _ (List.mem_append_left _ h))
theorem mt_oa3 {own : String} {ic : Nat} {X : String} {ix : Nat} {rx : ByteArray} {Y : String} {r : List String} {w : Cond} (h : w ∈ Bundle.chainSAtoms Y r) : w ∈ mt_oa own ic X ix rx Y r := List.mem_append_right _ (List.mem_append_left _ (List.mem_append_right _ h))
theorem mt_oa4 {own : String} {ic : Nat} {X : String} {ix : Nat} {rx : ByteArray} {Y : String} {r : List String} {w : Cond} (i : Nat) (h : ([.methodLink own ic (Bundle.initS X), .instantiable X 6, .castable X X, .selects X Bundle.tFill0 Bundle.tFill0, .selects X Bundle.tFill Bundle.tFill,
   .lays X Bundle.tN "cause" "Ljava/lang/Throwable;", .lays X Bundle.tN "stackTrace" Bundle.steD, .lays X Bundle.tN "suppressedExceptions" Bundle.listD, .lays X Bundle.tN "detailMessage" "Ljava/lang/String;",
   .isRef (.static Bundle.tN "UNASSIGNED_STACK" Bundle.steD), .isRef (.static Bundle.tN "SUPPRESSED_SENTINEL" Bundle.listD),
   .fieldLink Bundle.tN 198 Bundle.tN "backtrace" "Ljava/lang/Object;", .lays Bundle.tN Bundle.tN "backtrace" "Ljava/lang/Object;", .lays X Bundle.tN "backtrace" "Ljava/lang/Object;"] : List Cond)[i]? = some w) : w ∈ mt_oa own ic X ix rx Y r := List.mem_append_right _ (List.mem_append_right _ (List.mem_of_getElem? h))
set_option maxHeartbeats 1000000 in
theorem mt_ctor {p : Program} {l : Launch} {e : Env} {R : Room} {s : State} {m₀ : MethodId} {args : Array Value} {below : List Frame} {meth : Method} {c : Code} {W : State} {locs : List Loc} {cells slots : Nat} (X : Stand p l e R s m₀ args below meth c W locs cells slots) (hexec : p.tables.exec = Jvm.exec) (htr : e.platform.stackTraces = false) {own cls Y1 : String} {names : List String} {ic ix : Nat} {rx : ByteArray}
    (x0 : decode rx 0 = .ok (.aload_n 0, 1)) (x1 : decode rx 1 = .ok (.aload_n 1, 1)) (x2 : decode rx 2 = .ok (.invokespecial ix, 3)) (x5 : decode rx 5 = .ok (.return_, 1))
    (hown : s.vm.findClass own = some m₀.cls) (hcls : Bundle.fit cls = true) (hnames : ∀ n ∈ Y1 :: names, Bundle.fit n = true) (h : ∀ a ∈ mt_oa own ic cls ix rx Y1 names, a.before args s = true)
    (hlocs : ∀ x ∈ locs, ∀ cell, s.heap[x.base]? = some cell → cell.vm.isStatics = false)
    {a : Addr} {cX : ClassId} {kX : Class} (hfoundX : s.vm.findClass cls = some cX) (hkX : s.vm.classes[cX]? = some kX) (hcell : W.heap[a]? = some (freshCell cX kX)) (hnew : s.heap.size ≤ a) {msg : Value} (hmsg : msg.isRef = true)
    {g : JFrame} (hg : g.method = m₀) (hsize : g.locals.size = c.maxLocals) (hlocked : g.locked = none) (hentered : g.entered = []) {rest : List Value} (hstack : g.stack = msg :: .ref a :: .ref a :: rest)
    (hd6 : decode c.code g.pc = .ok (.invokespecial ic, 3)) (hd9 : decode c.code (g.pc + 3) = .ok (.athrow, 1)) (hout : ∀ x ∈ c.exceptionTable.toList, covers x (g.pc + 3) = false)
    (hRframes : (Y1 :: names).length + 3 < R.frames) (hRlocals : 2 * g.monitorRoom + ((Value.ref a :: rest).map fun v => v.category).sum + (13 * ((Y1 :: names).length + 1) + 42) ≤ R.locals) (hlocks : meth.locks = false) :
    ∃ U : State, Steps p.tables e below (W.setTop g) U ∧ U.status = .running ∧ Ended U below (.threw a) ∧ s.WarmedH U.vm ∧ s.sameButNew ({ U with vm := s.vm } : State) locs cells slots ∧ ∃ ce, U.heap[a]? = some ce ∧ ce.vm = .none ∧ s.vm.findClass cls = some ce.cls := by
  have howns : e.platform.frameOwnsMonitors = true := by rw [X.admits.platform]
  have hfin : e.platform.finalization = false := by rw [X.admits.platform]
  have hpl : e.platform.magicAccessors = ({} : Platform).magicAccessors := by rw [X.admits.platform]
  have w4 : ∀ (i : Nat) (w : Cond), ([.methodLink own ic (Bundle.initS cls), .instantiable cls 6, .castable cls cls, .selects cls Bundle.tFill0 Bundle.tFill0, .selects cls Bundle.tFill Bundle.tFill,
   .lays cls Bundle.tN "cause" "Ljava/lang/Throwable;", .lays cls Bundle.tN "stackTrace" Bundle.steD, .lays cls Bundle.tN "suppressedExceptions" Bundle.listD, .lays cls Bundle.tN "detailMessage" "Ljava/lang/String;",
   .isRef (.static Bundle.tN "UNASSIGNED_STACK" Bundle.steD), .isRef (.static Bundle.tN "SUPPRESSED_SENTINEL" Bundle.listD),
   .fieldLink Bundle.tN 198 Bundle.tN "backtrace" "Ljava/lang/Object;", .lays Bundle.tN Bundle.tN "backtrace" "Ljava/lang/Object;", .lays cls Bundle.tN "backtrace" "Ljava/lang/Object;"] : List Cond)[i]? = some w → w.holds args s none s [] = true := fun i w hi => h w (mt_oa4 i hi)
  obtain ⟨T, Z0, L, -, Y⟩ := ThrowableC.of_atoms (args := args) howns hfin hpl (fun x hx => h x (mt_oa1 (List.mem_append_left _ hx)))
  obtain ⟨Z, M, LZ, LM, hnZ⟩ := Init0T.ofS_atoms (args := args) hpl L Y (fun x hx => h x (mt_oa1 (List.mem_append_right _ hx)))
  obtain ⟨P1, L1, hP1m, hs1⟩ := PassC.ofS_atoms (args := args) (s := s) hpl (X := cls) (Y := Y1) (Bundle.fit_spec hcls).1 (Bundle.fit_spec (hnames Y1 List.mem_cons_self)).2 x0 x1 x2 x5 (fun c9 hc9 => h c9 (mt_oa2 hc9))
  obtain ⟨P2, Ps, hlen, L2, hL, hP2m, hlink1, hlink⟩ := Bundle.chainS (args := args) hpl hnZ names Y1 (hnames Y1 List.mem_cons_self) (fun n hn => hnames n (List.mem_cons_of_mem _ hn)) (fun x hx => h x (mt_oa3 hx))
  have hsup : P1.sup = P2.m := Option.some.inj (hs1.symm.trans hP2m)
  have hfound : s.vm.findClass cls = some P1.m.cls := findClass_of_methodNamed hP1m
  cases Option.some.inj (hfoundX.symm.trans hfound)
  obtain ⟨c1, kX', hc1, hk, hord, -, -, hn6⟩ := Cond.instantiable_spec (w4 1 _ rfl)
  cases Option.some.inj (hc1.symm.trans hfound)
  cases Option.some.inj (hkX.symm.trans hk)
  have hsel0 : selectMethod e.platform s.vm P1.m.cls T.fill0 = .method T.fill0 := by
    obtain ⟨c2, r2, m2, q1, q2, q3, q4, -⟩ := Cond.selects_spec (w4 3 _ rfl)
    cases Option.some.inj (q1.symm.trans hfound)
    cases Option.some.inj (q2.symm.trans (State.methodFound?_of_named Y.fill0 (by decide)))
    cases Option.some.inj (q3.symm.trans Y.fill0)
    rw [Launch.admits_selectMethod X.admits]; exact q4
  have hselF : selectMethod e.platform s.vm P1.m.cls T.fill = .method T.fill := by
    obtain ⟨c2, r2, m2, q1, q2, q3, q4, -⟩ := Cond.selects_spec (w4 4 _ rfl)
    cases Option.some.inj (q1.symm.trans hfound)
    cases Option.some.inj (q2.symm.trans (State.methodFound?_of_named Y.fill (by decide)))
    cases Option.some.inj (q3.symm.trans Y.fill)
    rw [Launch.admits_selectMethod X.admits]; exact q4
  obtain ⟨cellS0, hcS0, hiss⟩ := Y.statics
  obtain ⟨u0, hu0⟩ := Cond.staticRefV Y.unassigned L.unassignedStatic L.statics hcS0 hiss (w4 9 _ rfl)
  obtain ⟨sen, hsen⟩ := Cond.staticRefV Y.sentinel L.sentinelStatic L.statics hcS0 hiss (w4 10 _ rfl)
  obtain ⟨ci198, i198, fB, hk198, hg198, ha198, hsB, -, hnB, htB, hffB⟩ := Cond.ownField (t := .object "java/lang/Object") Y.found L.cls (by decide +kernel) (w4 11 _ rfl) (w4 12 _ rfl) e.platform hpl
  obtain ⟨cellS, hcS', heS, -, hkeep⟩ := X.same.2.2.2.2.2 T.aS cellS0 hcS0
  have hout' : ∀ i, (⟨T.aS, i⟩ : Loc) ∉ locs := fun i hmem => by
    have := hlocs _ hmem cellS0 hcS0
    rw [hiss] at this; cases this
  have hknownS : cellS.vm ≠ .unknown := by
    rw [heS]; intro hu
    rw [show cellS0.vm = .unknown from hu] at hiss
    cases hiss
  have hneS : T.aS ≠ a := Nat.ne_of_lt (Nat.lt_of_lt_of_le (Array.getElem?_eq_some_iff.mp hcS0).1 hnew)
  obtain ⟨iM, hffM⟩ := Y.msg
  obtain ⟨tyC, dC, hdC, hdnC⟩ := Cond.laysAt hfound hk Y.cause (w4 5 _ rfl)
  obtain ⟨tyS, dS, hdS, hdnS⟩ := Cond.laysAt hfound hk Y.stack (w4 6 _ rfl)
  obtain ⟨tyP, dP, hdP, hdnP⟩ := Cond.laysAt hfound hk Y.supp (w4 7 _ rfl)
  obtain ⟨tyM, dM, hdM, hdnM⟩ := Cond.laysAt hfound hk hffM (w4 8 _ rfl)
  obtain ⟨tyB, dB, hdB, hdnB⟩ := Cond.laysAt hfound hk hffB (w4 13 _ rfl)
  have bC := Cond.laysApart hdB hdC hdnB hdnC (by rw [hnB, Y.causeName]; decide)
  have bS := Cond.laysApart hdB hdS hdnB hdnS (by rw [hnB, Y.stackName]; decide)
  have bP := Cond.laysApart hdB hdP hdnB hdnP (by rw [hnB, Y.suppName]; decide)
  have hskip : SkipFacts T e.platform s (fun u => u) u0 ((preparedCellV T.toThrowableT (freshCell P1.m.cls kX) a u0 sen).withEntry W.cur) :=
    ⟨{ ci198 := ci198, i198 := i198, fBack := fB }, ⟨hk198, hg198, ha198, hsB⟩, by
      have := fresh_default (c := P1.m.cls) tyB
      rw [htB] at this
      simpa [preparedCellV, Cell.setSlot, Cell.withEntry, Array.getElem?_setIfInBounds, bC, bS, bP, bC.symm, bS.symm, bP.symm, defaultValue] using this, fun _ _ => rfl⟩
  obtain ⟨tm, methC, cdC, kC, vm₁, hnC, -, -, -, -, -, -, -, hW₁, st1⟩ := Steps.initColdS (tb := p.tables) (e := e) (below := below) (s := s) (U := W) X.here hexec X.warmed hpl hown (t := Bundle.initS cls) rfl rfl (Bundle.fit_spec hcls).2
    (w4 0 _ rfl) (h (.instanceMethod (Bundle.initS cls)) (mt_oa2 List.mem_cons_self)) (bytes := rx) (maxL := 2) (h (.code (Bundle.initS cls) rx 2 none) (mt_oa2 (List.mem_cons_of_mem _ List.mem_cons_self)))
    (f := g) hg (a := a) (msg := msg) (rest := .ref a :: rest) hstack hd6
  cases Option.some.inj (hnC.symm.trans hP1m)
  have X₁ := X.noted hW₁
  obtain ⟨vm₂, X₂, st2⟩ := X₁.ctorMessageOffV hexec (g := { g with stack := .ref a :: rest }) hg hsize T L Z LZ M LM (P1 :: P2 :: Ps)
    (fun P hP => by rcases List.mem_cons.mp hP with rfl | hP; exact L1; rcases List.mem_cons.mp hP with rfl | hP; exact L2; exact hL P hP) ⟨hsup, hlink1, hlink⟩ (u0 := u0) (sen := sen) (self := a) hmsg (cell := freshCell P1.m.cls kX) (cellS := cellS)
    hcell (fun _ => by simp) (by simp) rfl rfl hsel0 hselF hcS' hneS hknownS (by rw [hkeep _ (hout' _)]; exact hu0) (by rw [hkeep _ (hout' _)]; exact hsen)
    (Takes.of_laid hk hord tyC (by rw [Y.causeType]; rfl)) (Takes.of_laid hk hord tyS (by rw [Y.stackType]; exact fits_refV_array _ u0)) (Takes.of_laid hk hord tyP (by rw [Y.suppType]; exact fits_refV_object _ sen))
    (Takes.of_laid hk hord tyM (by rw [Y.msgType]; exact fits_refV_object _ ⟨msg, hmsg⟩)) Y.objLocals hskip htr [] hd6
    (by simp only [List.length_cons, hlen]; simp only [List.length_cons] at hRframes; omega) (by simp only [List.length_cons, hlen]; simp only [List.length_cons] at hRlocals; exact hRlocals)
  obtain ⟨hwalk, hrun, hended, hWU, hsame⟩ := X₂.athrowLeaves hexec (g := { g with stack := .ref a :: rest, pc := g.pc + 3 }) hg hlocked hentered hout (a := a) (rest := rest) rfl hd9
  have hlt : a < ((W.setVm vm₁).setVm vm₂).heap.size := (Array.getElem?_eq_some_iff.mp hcell).1
  have hU := heapAt_setCell_self (s := (W.setVm vm₁).setVm vm₂) (plainBareV T.toThrowableT (freshCell P1.m.cls kX) a u0 sen msg) hlt
  refine ⟨_, st1 _ (fun acts => ?_), hrun, hended, hWU, hsame.weaken (fun y hy hlt' => ?_) (Nat.le_refl _) (Nat.le_refl _), _, hU, rfl, hfound⟩
  · rw [doInvoke_state]
    exact st2 _ hwalk
  · rcases List.mem_append.mp hy with h1 | h1
    · exact h1
    · exfalso
      have hb : y.base = a := by
        simp only [List.mem_cons, List.not_mem_nil, or_false] at h1
        rcases h1 with rfl | rfl | rfl | rfl | rfl <;> rfl
      rw [hb] at hlt'
      exact Nat.not_lt.mpr hnew hlt'
end MTX
end
section
theorem mt_pl {L : List Cond} (ps : List Nat) (h : L = ps.filterMap (fun i => lw_tbl[i]?)) (h2 : L.all (fun w => goodWord w || mt_bk w) = true) : ∀ w ∈ L, w ∈ mt_T ∨ w ∈ mt_bw ∧ mt_bk w = true := by
  intro w hw
  have h1 := List.all_eq_true.mp h2 w hw
  rw [h] at hw
  obtain ⟨i, -, hi⟩ := List.mem_filterMap.mp hw
  have hm : w ∈ lw_tbl := List.mem_of_getElem? hi
  cases hg : goodWord w with
  | true => exact Or.inl (List.mem_filter.mpr ⟨hm, hg⟩)
  | false =>
    rw [hg, Bool.false_or] at h1
    refine Or.inr ⟨List.mem_filter.mpr ⟨?_, h1⟩, h1⟩
    rcases List.mem_append.mp hm with h9 | h9
    · obtain ⟨q, -, rfl⟩ := List.mem_map.mp h9
      cases h1
    · exact h9
def mt_pT (own : String) (ik ic : Nat) (cls : String) (ix : Nat) (rx : ByteArray) : Prop := Bundle.fit cls = true ∧ (Cond.classLink own ik cls) ∈ mt_T ∧ (Cond.initialized cls) ∈ mt_T ∧ (decode rx 0 = .ok (.aload_n 0, 1) ∧ decode rx 1 = .ok (.aload_n 1, 1) ∧ decode rx 2 = .ok (.invokespecial ix, 3) ∧ decode rx 5 = .ok (.return_, 1)) ∧ (∀ w ∈ (mt_oa own ic cls ix rx "java/lang/RuntimeException" ["java/lang/Exception"]).filter vx_no, w ∈ mt_T ∨ w ∈ mt_bw ∧ mt_bk w = true) ∧ ∀ w ∈ Cond.classLink own ik cls :: Cond.initialized cls :: (mt_oa own ic cls ix rx "java/lang/RuntimeException" ["java/lang/Exception"]).filter vx_no, vx_ot w = true
theorem mp_IAE : mt_pT RX3 56 60 "java/lang/IllegalArgumentException" 7 Bundle.six := ⟨by decide +kernel, mw_cl_X3_56, mw_in_java_lang_IllegalArgumentException, ⟨by decide +kernel, by decide +kernel, by decide +kernel, by decide +kernel⟩, mt_pl [49, 228, 237, 245, 248, 250, 229, 230, 69, 70, 231, 236, 246, 266, 218, 267, 220, 268, 222, 232, 234, 224, 262, 263, 265, 224, 341, 342, 343, 256, 210, 256, 257, 258, 259, 212, 259, 260, 261, 262, 214, 340, 331, 332, 333, 241, 334, 335, 336, 337, 227, 226, 338] (by decide +kernel) (by decide +kernel), by decide +kernel⟩
theorem mp_ISE : mt_pT RX3 44 48 "java/lang/IllegalStateException" 7 Bundle.six := ⟨by decide +kernel, mw_cl_X3_44, mw_in_java_lang_IllegalStateException, ⟨by decide +kernel, by decide +kernel, by decide +kernel, by decide +kernel⟩, mt_pl [49, 228, 237, 245, 248, 250, 229, 230, 69, 70, 231, 236, 246, 266, 218, 267, 220, 268, 222, 232, 234, 224, 262, 263, 265, 224, 253, 254, 255, 256, 210, 256, 257, 258, 259, 212, 259, 260, 261, 262, 214, 252, 207, 208, 215, 216, 217, 219, 221, 223, 227, 226, 225] (by decide +kernel) (by decide +kernel), by decide +kernel⟩
theorem mp_IOO : mt_pT RX3 65 69 "java/lang/IndexOutOfBoundsException" 7 Bundle.six := ⟨by decide +kernel, mw_cl_X3_65, mw_in_java_lang_IndexOutOfBoundsException, ⟨by decide +kernel, by decide +kernel, by decide +kernel, by decide +kernel⟩, mt_pl [49, 228, 237, 245, 248, 250, 229, 230, 69, 70, 231, 236, 246, 266, 218, 267, 220, 268, 222, 232, 234, 224, 262, 263, 265, 224, 306, 307, 308, 256, 210, 256, 257, 258, 259, 212, 259, 260, 261, 262, 214, 356, 347, 348, 349, 242, 350, 351, 352, 353, 227, 226, 354] (by decide +kernel) (by decide +kernel), by decide +kernel⟩
theorem mp_UOE : mt_pT RX3 77 81 "java/lang/UnsupportedOperationException" 7 Bundle.six := ⟨by decide +kernel, mw_cl_X3_77, mw_in_java_lang_UnsupportedOperationException, ⟨by decide +kernel, by decide +kernel, by decide +kernel, by decide +kernel⟩, mt_pl [49, 228, 237, 245, 248, 250, 229, 230, 69, 70, 231, 236, 246, 266, 218, 267, 220, 268, 222, 232, 234, 224, 262, 263, 265, 224, 378, 379, 380, 256, 210, 256, 257, 258, 259, 212, 259, 260, 261, 262, 214, 377, 368, 369, 370, 243, 371, 372, 373, 374, 227, 226, 375] (by decide +kernel) (by decide +kernel), by decide +kernel⟩
theorem mp_NSE : mt_pT RX3 116 120 "java/util/NoSuchElementException" 13 prog_17_method_4_code := ⟨by decide +kernel, mw_cl_X3_116, mw_in_java_util_NoSuchElementException, ⟨by decide +kernel, by decide +kernel, by decide +kernel, by decide +kernel⟩, mt_pl [49, 228, 237, 245, 248, 250, 229, 230, 69, 70, 231, 236, 246, 266, 218, 267, 220, 268, 222, 232, 234, 224, 262, 263, 265, 224, 466, 467, 468, 256, 210, 256, 257, 258, 259, 212, 259, 260, 261, 262, 214, 465, 456, 457, 458, 244, 459, 460, 461, 462, 227, 226, 463] (by decide +kernel) (by decide +kernel), by decide +kernel⟩
theorem mp_ARE : mt_pT RX3 250 254 "java/lang/ArithmeticException" 7 Bundle.six := ⟨by decide +kernel, mw_cl_X3_250, mw_in_java_lang_ArithmeticException, ⟨by decide +kernel, by decide +kernel, by decide +kernel, by decide +kernel⟩, mt_pl [49, 228, 237, 245, 248, 250, 229, 230, 69, 70, 231, 236, 246, 266, 218, 267, 220, 268, 222, 232, 234, 224, 262, 263, 265, 224, 708, 709, 710, 256, 210, 256, 257, 258, 259, 212, 259, 260, 261, 262, 214, 726, 707, 718, 719, 239, 713, 714, 716, 712, 227, 226, 711] (by decide +kernel) (by decide +kernel), by decide +kernel⟩
end
section
section MTY
theorem mt_throw {p : Program} {l : Launch} {e : Env} {R : Room} {s : State} {m : MethodId} {args : Array Value} {below : List Frame} {meth : Method} {c : Code} {H : Heap} {locs : List Loc} {cells slots : Nat} {cc : ByteArray} {nL pc : Nat} {ls : Array Slot} {rest : List Value} {g : mt_G} {z : Nat} {w : mt_w} {ad : Nat → Nat} {w0 : Cond} {own : String} {res : mt_R} {mc ms : Nat} {cls text : String} {ik is ic ix : Nat} {rx : ByteArray}
    (S : CallFix p m c cc nL s args (w0 :: mt_T) own) (hl : l.stackTraces = false) (P : mt_pT own ik ic cls ix rx) (hstr : (own, is, text) ∈ mt_strs) (hC : mt_C g z s) (hW : mt_W g z w ad H) (hS : va_S (mt_A z) s.heap H locs) (hls : ls.size = nL) (hout : ∀ x ∈ c.exceptionTable.toList, False) (hk : meth.locks = false) (hres : res = .inl cls)
    (d0 : decode cc pc = .ok (.new ik, 3)) (d3 : decode cc (pc + 3) = .ok (.dup, 1)) (d4 : decode cc (pc + 4) = .ok (.ldc is, 2)) (d6 : decode cc (pc + 6) = .ok (.invokespecial ic, 3)) (d9 : decode cc (pc + 9) = .ok (.athrow, 1))
    (hRf : 6 ≤ R.frames) (hRl : (rest.map fun v => v.category).sum + 82 ≤ R.locals) (hR : cells + 1 ≤ R.cells ∧ slots + 6 ≤ R.slots) (hc : cells + 1 ≤ mc) (hs : slots + 6 ≤ ms) :
    W p l e R s m args below meth c H locs cells slots (mt_E below g z w ad res args s mc ms) (F0 m pc ls rest) := by
  obtain ⟨hexec, hb, hml, hown, hts⟩ := S
  obtain ⟨P1, P2, P3, ⟨x0, x1, x2, x5⟩, P4, P5⟩ := P
  obtain ⟨sa, hvk⟩ := hC.2.2.2.2.1 _ hstr
  have hnames : ∀ n ∈ "java/lang/RuntimeException" :: ["java/lang/Exception"], Bundle.fit n = true := by decide +kernel
  have hat : ∀ w ∈ (mt_oa own ic cls ix rx "java/lang/RuntimeException" ["java/lang/Exception"]).filter vx_no, w.before args s = true := fun w hw => by
    rcases P4 w hw with h | ⟨h, hb9⟩
    · exact hts w (List.mem_cons_of_mem _ h)
    · exact va_Nw.use (mt_bwt hb9) (hC.2.2.2.2.2.1 w h)
  intro T hT X
  have htr : e.platform.stackTraces = false := (show e.platform.stackTraces = l.stackTraces by rw [X.admits.platform]).trans hl
  have Y := vx_rebase X (R' := { frames := R.frames, locals := R.locals, cells := 1, slots := 6 }) (Nat.le_refl _) (Nat.le_refl _) hR.1 hR.2
  obtain ⟨s', hA⟩ : ∃ z, z = (T.setVm s.vm).setFrames (.invoking m args :: below) := ⟨_, rfl⟩
  rw [← hA] at Y
  have hvm : s'.vm = s.vm := by rw [hA]; rfl
  have hhp : s'.heap = H := by rw [hA]; exact hT
  have hW0 : s.WarmedH s'.vm := by rw [hvm]; exact State.WarmedH.refl s
  have hat' : ∀ w ∈ (mt_oa own ic cls ix rx "java/lang/RuntimeException" ["java/lang/Exception"]).filter vx_no, w.before args s' = true := fun w hw => vx_ot_at hW0 hvm.symm (P5 w (List.mem_cons_of_mem _ (List.mem_cons_of_mem _ hw))) (hat w hw)
  have hk' : (Cond.classLink own ik cls).before args s' = true := vx_ot_at hW0 hvm.symm (P5 _ List.mem_cons_self) (hts _ (List.mem_cons_of_mem _ P2))
  have hini' : (Cond.initialized cls).before args s' = true := vx_ot_at hW0 hvm.symm (P5 _ (List.mem_cons_of_mem _ List.mem_cons_self)) (hts _ (List.mem_cons_of_mem _ P3))
  have hU' : vx_Zq Bundle.tN "UNASSIGNED_STACK" Bundle.steD (mt_A z) s' s'.heap := by rw [hhp]; exact vx_Zq.moved hW0.alike (hC.2.2.1.kept hS.2.1)
  have hN' : vx_Zq Bundle.tN "SUPPRESSED_SENTINEL" Bundle.listD (mt_A z) s' s'.heap := by rw [hhp]; exact vx_Zq.moved hW0.alike (hC.2.2.2.1.kept hS.2.1)
  have h : ∀ w ∈ mt_oa own ic cls ix rx "java/lang/RuntimeException" ["java/lang/Exception"], w.before args s' = true := vx_own hat' (vx_isRefq hU'.1) (vx_isRefq hN'.1) hU'.2.word hN'.2.word
  have hown' : s'.vm.findClass own = some m.cls := by rw [hvm]; exact hown
  have hins : (Cond.instantiable cls 6).before args s' = true := h _ (mt_oa4 1 rfl)
  obtain ⟨vm₁, cX, kX, hfX, hkX, -, -, X₁, st1⟩ := Y.newCold hexec (own := own) (C := cls) (index := ik) (n := 6) hown' hk' hins hini'
    (g := F0 m pc ls rest) rfl (by rw [hb]; exact d0) (Nat.le_refl _) (Nat.le_refl _)
  generalize hT1 : (T.setVm vm₁).pushCell { cls := cX, slots := kX.instanceTypes.map defaultValue, vm := .none } = T1 at X₁ st1
  have hcat : (Value.ref T.heap.size).category = 1 := rfl
  have hcellA : T1.heap[T.heap.size]? = some (freshCell cX kX) := by rw [← hT1]; exact State.heap_pushCell_size _ _
  have d3' : decode c.code (pc + 3) = .ok (.dup, 1) := by rw [hb]; exact d3
  have d4' : decode c.code (pc + 4) = .ok (.ldc is, 2) := by rw [hb]; exact d4
  have hstr' : vk_R own is text sa s' := vk_R.warm hW0 hvk
  obtain ⟨U, hsteps, hrun, hend, hWU, hsame, ce, hce, hcv, hcf⟩ := mt_ctor X₁ hexec htr (own := own) (cls := cls) (names := ["java/lang/Exception"]) (ic := ic) x0 x1 x2 x5 hown' P1 hnames h (fun x hx => nomatch hx) hfX hkX hcellA (by rw [hhp, hT]; exact Nat.le_refl _) (msg := .ref sa) rfl
    (g := { method := m, pc := pc + 6, locals := ls, stack := .ref sa :: .ref T.heap.size :: .ref T.heap.size :: rest, locked := none }) rfl (hls.trans hml.symm) rfl rfl (rest := rest) rfl
    (by rw [hb]; exact d6) (by rw [hb]; exact d9) (fun x hx => (hout x hx).elim) (by simp only [List.length_cons, List.length_nil]; omega) (by simp only [List.map_cons, List.sum_cons, hcat, List.length_cons, List.length_nil]; show 0 + _ + _ ≤ _; omega) hk
  obtain ⟨f1, f2⟩ := vx_frame hsame
  rw [hhp] at f1 f2
  have hWs : s.WarmedH U.vm := State.WarmedH.trans hW0 hWU
  have hcl : s.vm.findClass cls = some ce.cls := by rw [hvm] at hcf; exact hcf
  have hall : s.sameButNew ({ U with vm := s.vm } : State) locs mc ms := by
    subst hA
    obtain ⟨e1, e2⟩ := hsame
    rw [State.setFrames_setFrames] at e1
    have h2 : (T.setVm s.vm).sameButNew ({ U with vm := s.vm } : State) [] (0 + 1) (0 + 6) := ⟨e1, e2⟩
    have h3 := X.same.trans h2
    rw [List.append_nil] at h3
    exact h3.mono hc hs
  have f3 : ∀ q : Nat, q < H.size → U.heap[q]? = H[q]? := fun q hq => f2 q hq (fun z hz => nomatch hz)
  refine ⟨U, ?_, .threw T.heap.size, hrun, hend, Or.inr ⟨T.heap.size, rfl, cls, ce, locs, ⟨hres, hW.grow f3, ⟨Nat.le_trans hS.1 f1, fun q h1 h2 => (f3 q (Nat.lt_of_lt_of_le h1 hS.1)).trans (hS.2.1 q h1 h2)⟩⟩, hce, hcv, hcl, hWs, hall, hS.2.2⟩⟩
  refine st1 _ ?_
  show Steps p.tables e below (T1.setTop { method := m, pc := pc + 3, locals := ls, stack := .ref T.heap.size :: rest, locked := none }) _
  jvm_step X₁.here [X₁.here.top, hexec, d3', Value.category]
  exact X₁.ldcString hexec (own := own) (text := text) (index := is) (a := sa) hown' hstr'.1 hstr'.2
    (g := { method := m, pc := pc + 4, locals := ls, stack := .ref T.heap.size :: .ref T.heap.size :: rest, locked := none }) rfl d4' _ hsteps
theorem mt_throwW {p : Program} {l : Launch} {e : Env} {R : Room} {s : State} {m : MethodId} {args : Array Value} {below : List Frame} {meth : Method} {c : Code} {H : Heap} {locs : List Loc} {cells slots : Nat} {cc : ByteArray} {nL pc : Nat} {ls : Array Slot} {rest : List Value} {g : mt_G} {z : Nat} {w : mt_w} {ad : Nat → Nat} {w0 : Cond} {own : String} {res : mt_R} {mc ms : Nat} {cls text : String} {ik is ic ix : Nat} {rx : ByteArray}
    (S : CallFix p m c cc nL s args (w0 :: mt_T) own) (hl : l.stackTraces = false) (P : mt_pT own ik ic cls ix rx) (hstr : (own, is, text) ∈ mt_strs) (hC : mt_C g z s) (hW : mt_W g z w ad H) (hS : va_S (mt_A z) s.heap H locs) (hls : ls.size = nL) (hout : ∀ x ∈ c.exceptionTable.toList, False) (hk : meth.locks = false) (hres : res = .inl cls)
    (d0 : decode cc pc = .ok (.new ik, 3)) (d3 : decode cc (pc + 3) = .ok (.dup, 1)) (d4 : decode cc (pc + 4) = .ok (.ldc_w is, 3)) (d6 : decode cc (pc + 7) = .ok (.invokespecial ic, 3)) (d9 : decode cc (pc + 10) = .ok (.athrow, 1))
    (hRf : 6 ≤ R.frames) (hRl : (rest.map fun v => v.category).sum + 82 ≤ R.locals) (hR : cells + 1 ≤ R.cells ∧ slots + 6 ≤ R.slots) (hc : cells + 1 ≤ mc) (hs : slots + 6 ≤ ms) :
    W p l e R s m args below meth c H locs cells slots (mt_E below g z w ad res args s mc ms) (F0 m pc ls rest) := by
  obtain ⟨hexec, hb, hml, hown, hts⟩ := S
  obtain ⟨P1, P2, P3, ⟨x0, x1, x2, x5⟩, P4, P5⟩ := P
  obtain ⟨sa, hvk⟩ := hC.2.2.2.2.1 _ hstr
  have hnames : ∀ n ∈ "java/lang/RuntimeException" :: ["java/lang/Exception"], Bundle.fit n = true := by decide +kernel
  have hat : ∀ w ∈ (mt_oa own ic cls ix rx "java/lang/RuntimeException" ["java/lang/Exception"]).filter vx_no, w.before args s = true := fun w hw => by
    rcases P4 w hw with h | ⟨h, hb9⟩
    · exact hts w (List.mem_cons_of_mem _ h)
    · exact va_Nw.use (mt_bwt hb9) (hC.2.2.2.2.2.1 w h)
  intro T hT X
  have htr : e.platform.stackTraces = false := (show e.platform.stackTraces = l.stackTraces by rw [X.admits.platform]).trans hl
  have Y := vx_rebase X (R' := { frames := R.frames, locals := R.locals, cells := 1, slots := 6 }) (Nat.le_refl _) (Nat.le_refl _) hR.1 hR.2
  obtain ⟨s', hA⟩ : ∃ z, z = (T.setVm s.vm).setFrames (.invoking m args :: below) := ⟨_, rfl⟩
  rw [← hA] at Y
  have hvm : s'.vm = s.vm := by rw [hA]; rfl
  have hhp : s'.heap = H := by rw [hA]; exact hT
  have hW0 : s.WarmedH s'.vm := by rw [hvm]; exact State.WarmedH.refl s
  have hat' : ∀ w ∈ (mt_oa own ic cls ix rx "java/lang/RuntimeException" ["java/lang/Exception"]).filter vx_no, w.before args s' = true := fun w hw => vx_ot_at hW0 hvm.symm (P5 w (List.mem_cons_of_mem _ (List.mem_cons_of_mem _ hw))) (hat w hw)
  have hk' : (Cond.classLink own ik cls).before args s' = true := vx_ot_at hW0 hvm.symm (P5 _ List.mem_cons_self) (hts _ (List.mem_cons_of_mem _ P2))
  have hini' : (Cond.initialized cls).before args s' = true := vx_ot_at hW0 hvm.symm (P5 _ (List.mem_cons_of_mem _ List.mem_cons_self)) (hts _ (List.mem_cons_of_mem _ P3))
  have hU' : vx_Zq Bundle.tN "UNASSIGNED_STACK" Bundle.steD (mt_A z) s' s'.heap := by rw [hhp]; exact vx_Zq.moved hW0.alike (hC.2.2.1.kept hS.2.1)
  have hN' : vx_Zq Bundle.tN "SUPPRESSED_SENTINEL" Bundle.listD (mt_A z) s' s'.heap := by rw [hhp]; exact vx_Zq.moved hW0.alike (hC.2.2.2.1.kept hS.2.1)
  have h : ∀ w ∈ mt_oa own ic cls ix rx "java/lang/RuntimeException" ["java/lang/Exception"], w.before args s' = true := vx_own hat' (vx_isRefq hU'.1) (vx_isRefq hN'.1) hU'.2.word hN'.2.word
  have hown' : s'.vm.findClass own = some m.cls := by rw [hvm]; exact hown
  have hins : (Cond.instantiable cls 6).before args s' = true := h _ (mt_oa4 1 rfl)
  obtain ⟨vm₁, cX, kX, hfX, hkX, -, -, X₁, st1⟩ := Y.newCold hexec (own := own) (C := cls) (index := ik) (n := 6) hown' hk' hins hini'
    (g := F0 m pc ls rest) rfl (by rw [hb]; exact d0) (Nat.le_refl _) (Nat.le_refl _)
  generalize hT1 : (T.setVm vm₁).pushCell { cls := cX, slots := kX.instanceTypes.map defaultValue, vm := .none } = T1 at X₁ st1
  have hcat : (Value.ref T.heap.size).category = 1 := rfl
  have hcellA : T1.heap[T.heap.size]? = some (freshCell cX kX) := by rw [← hT1]; exact State.heap_pushCell_size _ _
  have d3' : decode c.code (pc + 3) = .ok (.dup, 1) := by rw [hb]; exact d3
  have d4' : decode c.code (pc + 4) = .ok (.ldc_w is, 3) := by rw [hb]; exact d4
  have hstr' : vk_R own is text sa s' := vk_R.warm hW0 hvk
  obtain ⟨U, hsteps, hrun, hend, hWU, hsame, ce, hce, hcv, hcf⟩ := mt_ctor X₁ hexec htr (own := own) (cls := cls) (names := ["java/lang/Exception"]) (ic := ic) x0 x1 x2 x5 hown' P1 hnames h (fun x hx => nomatch hx) hfX hkX hcellA (by rw [hhp, hT]; exact Nat.le_refl _) (msg := .ref sa) rfl
    (g := { method := m, pc := pc + 7, locals := ls, stack := .ref sa :: .ref T.heap.size :: .ref T.heap.size :: rest, locked := none }) rfl (hls.trans hml.symm) rfl rfl (rest := rest) rfl
    (by rw [hb]; exact d6) (by rw [hb]; exact d9) (fun x hx => (hout x hx).elim) (by simp only [List.length_cons, List.length_nil]; omega) (by simp only [List.map_cons, List.sum_cons, hcat, List.length_cons, List.length_nil]; show 0 + _ + _ ≤ _; omega) hk
  obtain ⟨f1, f2⟩ := vx_frame hsame
  rw [hhp] at f1 f2
  have hWs : s.WarmedH U.vm := State.WarmedH.trans hW0 hWU
  have hcl : s.vm.findClass cls = some ce.cls := by rw [hvm] at hcf; exact hcf
  have hall : s.sameButNew ({ U with vm := s.vm } : State) locs mc ms := by
    subst hA
    obtain ⟨e1, e2⟩ := hsame
    rw [State.setFrames_setFrames] at e1
    have h2 : (T.setVm s.vm).sameButNew ({ U with vm := s.vm } : State) [] (0 + 1) (0 + 6) := ⟨e1, e2⟩
    have h3 := X.same.trans h2
    rw [List.append_nil] at h3
    exact h3.mono hc hs
  have f3 : ∀ q : Nat, q < H.size → U.heap[q]? = H[q]? := fun q hq => f2 q hq (fun z hz => nomatch hz)
  refine ⟨U, ?_, .threw T.heap.size, hrun, hend, Or.inr ⟨T.heap.size, rfl, cls, ce, locs, ⟨hres, hW.grow f3, ⟨Nat.le_trans hS.1 f1, fun q h1 h2 => (f3 q (Nat.lt_of_lt_of_le h1 hS.1)).trans (hS.2.1 q h1 h2)⟩⟩, hce, hcv, hcl, hWs, hall, hS.2.2⟩⟩
  refine st1 _ ?_
  show Steps p.tables e below (T1.setTop { method := m, pc := pc + 3, locals := ls, stack := .ref T.heap.size :: rest, locked := none }) _
  jvm_step X₁.here [X₁.here.top, hexec, d3', Value.category]
  exact X₁.ldcStringW hexec (own := own) (text := text) (index := is) (a := sa) hown' hstr'.1 hstr'.2
    (g := { method := m, pc := pc + 4, locals := ls, stack := .ref T.heap.size :: .ref T.heap.size :: rest, locked := none }) rfl d4' _ hsteps
end MTY
end
section
/-! the world of the class (ids below 200), of the reference (200 ..) and of the law's two answers (300, 301) -/
section MTW
def mt_arr (g : mt_G) (lc bc : Nat) (N : Nat → Nat → Int32) (k : Nat) : Option (ClassId × Nat) :=
  if k < 100 then (if k = 4 ∨ k = 5 then some (g.2 0, 4) else if k = 6 ∨ k = 7 then some (g.2 0, 341) else none)
  else if k < 200 then
    (if 110 ≤ k ∧ k < 116 then (if k < 110 + lc then some (g.2 0, 341) else none)
     else if 120 ≤ k ∧ k < 126 then (if k < 120 + lc then some (g.2 0, 341) else none)
     else if 130 ≤ k ∧ k < 136 then (if k < 130 + lc then some (g.2 0, 341) else none)
     else if 140 ≤ k ∧ k < 146 then (if k < 140 + lc then some (g.2 1, 341) else none)
     else if 170 ≤ k ∧ k < 176 then (if k < 170 + bc then some (g.2 0, if N (k - 10) 0 = 0 then 2046 else 341) else none) else none)
  else if k < 300 then
    (if 201 ≤ k ∧ k < 204 then some (g.2 0, 2046) else if 205 ≤ k ∧ k < 208 then some (g.2 0, 8) else if 208 ≤ k ∧ k < 210 then some (g.2 1, 8)
     else if k = 211 then some (g.2 0, 4) else if k = 213 then some (g.2 0, 12276) else if k = 214 then some (g.2 1, 6) else none)
  else none
def mt_tb (ad : Nat → Nat) (lc mc bc : Nat) (n : Nat → Int32) : List Value := [.ref (ad 1), .ref (ad 2), .ref (ad 3), .ref (ad 4), .ref (ad 5), .ref (ad 6), .ref (ad 7), .int (nI lc), .int (nI mc), .int (nI bc), .int (n 10)]
def mt_mo (ad : Nat → Nat) (n : Nat → Int32) : List Value := [.ref (ad 201), .ref (ad 202), .ref (ad 203), .int (n 3), .ref (ad 205), .ref (ad 206), .ref (ad 207), .ref (ad 208), .ref (ad 209), .int (n 9), .ref (ad 211), .int (n 11), .ref (ad 213), .ref (ad 214), .int (n 14), .int (n 15)]
def mt_mn (n : Nat → Int32) : List Value := [.int (n 0), .int (n 1), .int (n 2), .int (n 3), .int (n 4)]
def mt_rr (ad : Nat → Nat) (b c : Nat) : Nat → Option Nat := fun i => if i < c then some (ad (b + i)) else none
def mt_obj (g : mt_G) (ad : Nat → Nat) (lc mc bc : Nat) (N : Nat → Nat → Int32) (o : Nat → Int64) (d : Nat → UInt64) (k : Nat) : Option va_E :=
  if k < 100 then
    (if k = 0 then some (.inr (5, mt_tb ad lc mc bc (N 0)))
     else if k = 1 then some (.inl (g.2 2, 6, .inr (.inr (.inr (.inr (mt_rr ad 100 lc))))))
     else if k = 2 then some (.inl (g.2 3, 8, .inr (.inr (.inr (.inr (mt_rr ad 150 mc))))))
     else if k = 3 then some (.inl (g.2 4, 6, .inr (.inr (.inr (.inr (mt_rr ad 160 bc)))))) else none)
  else if k < 200 then
    (if k < 106 then (if k < 100 + lc then some (.inr (3, [.ref (ad (k + 10)), .ref (ad (k + 20)), .ref (ad (k + 30)), .ref (ad (k + 40))])) else none)
     else if 150 ≤ k ∧ k < 158 then (if k < 150 + mc then some (.inr (4, mt_mn (N k))) else none)
     else if 160 ≤ k ∧ k < 166 then (if k < 160 + bc then some (.inr (2, [.int (N k 0), .ref (ad (k + 10))])) else none) else none)
  else if k = 200 then some (.inr (6, mt_mo ad (N 200)))
  else if k = 300 then some (.inl (g.2 5, 1, .inr (.inl o)))
  else if k = 301 then some (.inl (g.2 6, 1, .inr (.inr (.inr (.inl d))))) else none
def mt_wc (g : mt_G) (ad : Nat → Nat) (lc mc bc : Nat) (N G : Nat → Nat → Int32) (o : Nat → Int64) (d : Nat → UInt64) : mt_w := fun k =>
  match mt_arr g lc bc N k with | some c => some (.inl (c.1, c.2, .inl (G k))) | none => mt_obj g ad lc mc bc N o d k
def mt_g1 (G : Nat → Nat → Int32) (k : Nat) (f : Nat → Int32) : Nat → Nat → Int32 := fun b => if b = k then f else G b
def mt_gu (G : Nat → Nat → Int32) (k i : Nat) (x : Int32) : Nat → Nat → Int32 := fun b j => if b = k ∧ j = i then x else G b j
theorem mt_g1u (G : Nat → Nat → Int32) (k i : Nat) (x : Int32) : mt_g1 G k (upd (G k) i x) = mt_gu G k i x := by
  funext b j
  unfold mt_g1 mt_gu upd
  by_cases h1 : b = k
  · subst h1
    by_cases h2 : j = i <;> simp [h2]
  · simp [h1]
variable {g : mt_G} {ad : Nat → Nat} {lc mc bc : Nat} {N G : Nat → Nat → Int32} {o : Nat → Int64} {d : Nat → UInt64}
theorem wc_arr {k : Nat} {c : ClassId × Nat} (h : mt_arr g lc bc N k = some c) : mt_wc g ad lc mc bc N G o d k = some (.inl (c.1, c.2, .inl (G k))) := by unfold mt_wc; rw [h]
theorem wc_ob {k : Nat} (h : mt_arr g lc bc N k = none) : mt_wc g ad lc mc bc N G o d k = mt_obj g ad lc mc bc N o d k := by unfold mt_wc; rw [h]
-- the arrays of numbers
theorem ar_4 : mt_arr g lc bc N 4 = some (g.2 0, 4) := rfl
theorem ar_5 : mt_arr g lc bc N 5 = some (g.2 0, 4) := rfl
theorem ar_6 : mt_arr g lc bc N 6 = some (g.2 0, 341) := rfl
theorem ar_7 : mt_arr g lc bc N 7 = some (g.2 0, 341) := rfl
theorem ar_201 : mt_arr g lc bc N 201 = some (g.2 0, 2046) := rfl
theorem ar_202 : mt_arr g lc bc N 202 = some (g.2 0, 2046) := rfl
theorem ar_203 : mt_arr g lc bc N 203 = some (g.2 0, 2046) := rfl
theorem ar_205 : mt_arr g lc bc N 205 = some (g.2 0, 8) := rfl
theorem ar_206 : mt_arr g lc bc N 206 = some (g.2 0, 8) := rfl
theorem ar_207 : mt_arr g lc bc N 207 = some (g.2 0, 8) := rfl
theorem ar_208 : mt_arr g lc bc N 208 = some (g.2 1, 8) := rfl
theorem ar_209 : mt_arr g lc bc N 209 = some (g.2 1, 8) := rfl
theorem ar_211 : mt_arr g lc bc N 211 = some (g.2 0, 4) := rfl
theorem ar_213 : mt_arr g lc bc N 213 = some (g.2 0, 12276) := rfl
theorem ar_214 : mt_arr g lc bc N 214 = some (g.2 1, 6) := rfl
theorem ar_k {i : Nat} (h6 : lc ≤ 6) (hi : i < lc) : mt_arr g lc bc N (110 + i) = some (g.2 0, 341) := by
  unfold mt_arr; rw [if_neg (by omega), if_pos (by omega), if_pos (by omega), if_pos (by omega)]
theorem ar_o {i : Nat} (h6 : lc ≤ 6) (hi : i < lc) : mt_arr g lc bc N (120 + i) = some (g.2 0, 341) := by
  unfold mt_arr; rw [if_neg (by omega), if_pos (by omega), if_neg (by omega), if_pos (by omega), if_pos (by omega)]
theorem ar_v {i : Nat} (h6 : lc ≤ 6) (hi : i < lc) : mt_arr g lc bc N (130 + i) = some (g.2 0, 341) := by
  unfold mt_arr; rw [if_neg (by omega), if_pos (by omega), if_neg (by omega), if_neg (by omega), if_pos (by omega), if_pos (by omega)]
theorem ar_c {i : Nat} (h6 : lc ≤ 6) (hi : i < lc) : mt_arr g lc bc N (140 + i) = some (g.2 1, 341) := by
  unfold mt_arr; rw [if_neg (by omega), if_pos (by omega), if_neg (by omega), if_neg (by omega), if_neg (by omega), if_pos (by omega), if_pos (by omega)]
theorem ar_b {i : Nat} (h6 : bc ≤ 6) (hi : i < bc) : mt_arr g lc bc N (170 + i) = some (g.2 0, if N (160 + i) 0 = 0 then 2046 else 341) := by
  unfold mt_arr; rw [if_neg (by omega), if_pos (by omega), if_neg (by omega), if_neg (by omega), if_neg (by omega), if_neg (by omega), if_pos (by omega), if_pos (by omega), show 170 + i - 10 = 160 + i by omega]
-- the objects and the rows of references
theorem wc_0 : mt_wc g ad lc mc bc N G o d 0 = some (.inr (5, mt_tb ad lc mc bc (N 0))) := rfl
theorem wc_1 : mt_wc g ad lc mc bc N G o d 1 = some (.inl (g.2 2, 6, .inr (.inr (.inr (.inr (mt_rr ad 100 lc)))))) := rfl
theorem wc_2 : mt_wc g ad lc mc bc N G o d 2 = some (.inl (g.2 3, 8, .inr (.inr (.inr (.inr (mt_rr ad 150 mc)))))) := rfl
theorem wc_3 : mt_wc g ad lc mc bc N G o d 3 = some (.inl (g.2 4, 6, .inr (.inr (.inr (.inr (mt_rr ad 160 bc)))))) := rfl
theorem wc_200 : mt_wc g ad lc mc bc N G o d 200 = some (.inr (6, mt_mo ad (N 200))) := rfl
theorem wc_300 : mt_wc g ad lc mc bc N G o d 300 = some (.inl (g.2 5, 1, .inr (.inl o))) := rfl
theorem wc_301 : mt_wc g ad lc mc bc N G o d 301 = some (.inl (g.2 6, 1, .inr (.inr (.inr (.inl d))))) := rfl
theorem wc_lay {i : Nat} (h6 : lc ≤ 6) (hi : i < lc) : mt_wc g ad lc mc bc N G o d (100 + i) = some (.inr (3, [.ref (ad (110 + i)), .ref (ad (120 + i)), .ref (ad (130 + i)), .ref (ad (140 + i))])) := by
  rw [wc_ob (by unfold mt_arr; rw [if_neg (by omega), if_pos (by omega), if_neg (by omega), if_neg (by omega), if_neg (by omega), if_neg (by omega), if_neg (by omega)])]
  unfold mt_obj
  rw [if_neg (by omega), if_pos (by omega), if_pos (by omega), if_pos (by omega), show 100 + i + 10 = 110 + i by omega, show 100 + i + 20 = 120 + i by omega, show 100 + i + 30 = 130 + i by omega, show 100 + i + 40 = 140 + i by omega]
theorem wc_mnt {i : Nat} (h8 : mc ≤ 8) (hi : i < mc) : mt_wc g ad lc mc bc N G o d (150 + i) = some (.inr (4, mt_mn (N (150 + i)))) := by
  rw [wc_ob (by unfold mt_arr; rw [if_neg (by omega), if_pos (by omega), if_neg (by omega), if_neg (by omega), if_neg (by omega), if_neg (by omega), if_neg (by omega)])]
  unfold mt_obj
  rw [if_neg (by omega), if_pos (by omega), if_neg (by omega), if_pos (by omega), if_pos (by omega)]
theorem wc_bak {i : Nat} (h6 : bc ≤ 6) (hi : i < bc) : mt_wc g ad lc mc bc N G o d (160 + i) = some (.inr (2, [.int (N (160 + i) 0), .ref (ad (170 + i))])) := by
  rw [wc_ob (by unfold mt_arr; rw [if_neg (by omega), if_pos (by omega), if_neg (by omega), if_neg (by omega), if_neg (by omega), if_neg (by omega), if_neg (by omega)])]
  unfold mt_obj
  rw [if_neg (by omega), if_pos (by omega), if_neg (by omega), if_neg (by omega), if_pos (by omega), if_pos (by omega), show 160 + i + 10 = 170 + i by omega]
-- what a store makes of it
theorem wc_setG {k : Nat} {c : ClassId × Nat} (h : mt_arr g lc bc N k = some c) (f : Nat → Int32) : mt_up (mt_wc g ad lc mc bc N G o d) k (.inl (c.1, c.2, .inl f)) = mt_wc g ad lc mc bc N (mt_g1 G k f) o d := by
  funext b
  unfold mt_up mt_wc mt_g1
  by_cases hb : b = k
  · subst hb; rw [if_pos rfl, h]; simp
  · rw [if_neg hb]; simp only [if_neg hb]
theorem wc_setg {k i : Nat} {x : Int32} {c : ClassId × Nat} (h : mt_arr g lc bc N k = some c) : mt_up (mt_wc g ad lc mc bc N G o d) k (.inl (c.1, c.2, .inl (upd (G k) i x))) = mt_wc g ad lc mc bc N (mt_gu G k i x) o d := by rw [wc_setG h, mt_g1u]
theorem ar_N {k : Nat} {f : Nat → Int32} (hk : k < 160 ∨ 166 ≤ k) : mt_arr g lc bc (mt_g1 N k f) = mt_arr g lc bc N := by
  funext b
  unfold mt_arr mt_g1
  by_cases h1 : 170 ≤ b ∧ b < 176
  · have h2 : ¬ b - 10 = k := by omega
    simp only [if_neg h2]
  · by_cases h3 : b < 100
    · simp only [if_pos h3]
    · by_cases h4 : b < 200
      · simp only [if_neg h3, if_pos h4, if_neg h1]
      · simp only [if_neg h3, if_neg h4]
theorem wc_setN {k ci : Nat} {f : Nat → Int32} {L : List Value} (hk : k < 160 ∨ 166 ≤ k) (h0 : mt_wc g ad lc mc bc (mt_g1 N k f) G o d k = some (.inr (ci, L))) (h1 : mt_arr g lc bc N k = none) : mt_up (mt_wc g ad lc mc bc N G o d) k (.inr (ci, L)) = mt_wc g ad lc mc bc (mt_g1 N k f) G o d := by
  funext b
  by_cases hb : b = k
  · subst hb; rw [h0]; unfold mt_up; rw [if_pos rfl]
  · unfold mt_up mt_wc
    rw [if_neg hb, ar_N hk]
    have e1 : mt_g1 N k f b = N b := by unfold mt_g1; rw [if_neg hb]
    have e2 : mt_obj g ad lc mc bc (mt_g1 N k f) o d b = mt_obj g ad lc mc bc N o d b := by
      by_cases q1 : b = 0
      · subst q1
        show some (Sum.inr (5, mt_tb ad lc mc bc (mt_g1 N k f 0))) = some (Sum.inr (5, mt_tb ad lc mc bc (N 0)))
        rw [e1]
      · by_cases q2 : b = 200
        · subst q2
          show some (Sum.inr (6, mt_mo ad (mt_g1 N k f 200))) = some (Sum.inr (6, mt_mo ad (N 200)))
          rw [e1]
        · unfold mt_obj
          rw [e1]
          simp only [if_neg q1, if_neg q2]
    rw [e2]
theorem wc_setc {x : Int32} : mt_up (mt_wc g ad lc mc bc N G o d) 0 (.inr (5, (mt_tb ad lc mc bc (N 0)).set 10 (.int x))) = mt_wc g ad lc mc bc (mt_gu N 0 10 x) G o d := by
  rw [← mt_g1u]
  exact wc_setN (k := 0) (Or.inl (by decide)) rfl rfl
theorem wc_setm {i j : Nat} {x : Int32} (h8 : mc ≤ 8) (hi : i < mc) (hj : j < 5) : mt_up (mt_wc g ad lc mc bc N G o d) (150 + i) (.inr (4, (mt_mn (N (150 + i))).set j (.int x))) = mt_wc g ad lc mc bc (mt_gu N (150 + i) j x) G o d := by
  rw [← mt_g1u]
  refine wc_setN (k := 150 + i) (Or.inl (by omega)) ?_ (by unfold mt_arr; rw [if_neg (by omega), if_pos (by omega), if_neg (by omega), if_neg (by omega), if_neg (by omega), if_neg (by omega), if_neg (by omega)])
  rw [wc_mnt h8 hi]
  unfold mt_g1
  rw [if_pos rfl]
  match j, hj with
  | 0, _ => rfl
  | 1, _ => rfl
  | 2, _ => rfl
  | 3, _ => rfl
  | 4, _ => rfl
theorem wc_sett {j : Nat} {x : Int32} (hj : j = 3 ∨ j = 9 ∨ j = 11 ∨ j = 14 ∨ j = 15) : mt_up (mt_wc g ad lc mc bc N G o d) 200 (.inr (6, (mt_mo ad (N 200)).set j (.int x))) = mt_wc g ad lc mc bc (mt_gu N 200 j x) G o d := by
  rw [← mt_g1u]
  refine wc_setN (k := 200) (Or.inr (by decide)) ?_ rfl
  rcases hj with rfl | rfl | rfl | rfl | rfl <;> rfl
theorem wc_seto {x : Int64} : mt_up (mt_wc g ad lc mc bc N G o d) 300 (.inl (g.2 5, 1, .inr (.inl (vp_updL o 0 x)))) = mt_wc g ad lc mc bc N G (vp_updL o 0 x) d := by
  funext b
  unfold mt_up
  by_cases hb : b = 300
  · subst hb; rfl
  · rw [if_neg hb]
    unfold mt_wc mt_obj
    simp only [if_neg hb]
theorem wc_setd {x : UInt64} : mt_up (mt_wc g ad lc mc bc N G o d) 301 (.inl (g.2 6, 1, .inr (.inr (.inr (.inl (va_up d 0 x)))))) = mt_wc g ad lc mc bc N G o (va_up d 0 x) := by
  funext b
  unfold mt_up
  by_cases hb : b = 301
  · subst hb; rfl
  · rw [if_neg hb]
    unfold mt_wc mt_obj
    simp only [if_neg hb]
theorem mt_W.to {z : Nat} {w w1 : mt_w} {ad ad1 : Nat → Nat} {H : Heap} (h : mt_W g z w ad H) (e : w = w1) (e2 : ad = ad1 := by rfl) : mt_W g z w1 ad1 H := by subst e; subst e2; exact h
end MTW
end
section
section MTV
variable {p : Program} {l : Launch} {e : Env} {R : Room} {s : State} {m : MethodId} {args : Array Value} {below : List Frame} {meth : Method} {c : Code} {H : Heap} {locs : List Loc} {cells slots : Nat} {Q : State → Prop}
variable {cc : ByteArray} {nL pc : Nat} {ls : Array Slot} {rest st0 : List Value} {g : mt_G} {z : Nat} {w w1 w' : mt_w} {ad ad1 ad' : Nat → Nat} {w0 : Cond} {own : String} {res : mt_R} {mc0 ms0 : Nat}
variable {lc mc bc : Nat} {N G : Nat → Nat → Int32} {o : Nat → Int64} {d : Nat → UInt64}
theorem mt_te {x y : Int32} (h : x = y) (k : W p l e R s m args below meth c H locs cells slots Q (F0 m pc ls (.int y :: rest))) : W p l e R s m args below meth c H locs cells slots Q (F0 m pc ls (.int x :: rest)) := by subst h; exact k
theorem mt_tev {x y : Value} (h : x = y) (k : W p l e R s m args below meth c H locs cells slots Q (F0 m pc ls (y :: rest))) : W p l e R s m args below meth c H locs cells slots Q (F0 m pc ls (x :: rest)) := by subst h; exact k
theorem vin {x : Int32} {n : Nat} (h1 : ¬ x < 0) (h2 : ¬ nI n ≤ x) (hn : n < 2 ^ 31 := by decide) : vp_in x n := by
  obtain ⟨j, hj, rfl⟩ := nI_of h1
  refine vp_in_nI ?_ hn
  rcases Nat.lt_or_ge j n with h | h
  · exact h
  · exact absurd (nI_le h hj) h2
theorem vin' {x : Int32} {n : Nat} (h1 : ¬ x < 0) (h2 : x < nI n) (hn : n < 2 ^ 31 := by decide) : vp_in x n := by
  obtain ⟨j, hj, rfl⟩ := nI_of h1
  exact vp_in_nI ((nI_ltI hj hn).mp h2) hn
theorem vin_lt {x : Int32} {n : Nat} (h : vp_in x n) : x.toNatClampNeg < n := Nat.not_le.mp fun q => h (Or.inr q)
theorem wk_iald {k n : Nat} (S : CallFix p m c cc nL s args (w0 :: mt_T) own) (hC : mt_C g z s) (hW : mt_W g z (mt_wc g ad lc mc bc N G o d) ad H) (ha : mt_arr g lc bc N k = some (g.2 0, n)) {i : Int32} (hin : vp_in i n) (hdg : decode cc pc = .ok (.iaload, 1))
    (kk : W p l e R s m args below meth c H locs cells slots Q (F0 m (pc + 1) ls (.int (G k i.toNatClampNeg) :: rest))) : W p l e R s m args below meth c H locs cells slots Q (F0 m pc ls (.int i :: .ref (ad k) :: rest)) := mt_iald S hC hW (wc_arr ha) hin hdg kk
theorem wk_zald {k n : Nat} (S : CallFix p m c cc nL s args (w0 :: mt_T) own) (hC : mt_C g z s) (hW : mt_W g z (mt_wc g ad lc mc bc N G o d) ad H) (ha : mt_arr g lc bc N k = some (g.2 1, n)) {i : Int32} (hin : vp_in i n) (hdg : decode cc pc = .ok (.baload, 1))
    (kk : W p l e R s m args below meth c H locs cells slots Q (F0 m (pc + 1) ls (.int (G k i.toNatClampNeg) :: rest))) : W p l e R s m args below meth c H locs cells slots Q (F0 m pc ls (.int i :: .ref (ad k) :: rest)) := mt_zald S hC hW (wc_arr ha) hin hdg kk
theorem wk_ialn {k n : Nat} (S : CallFix p m c cc nL s args (w0 :: mt_T) own) (hC : mt_C g z s) (hW : mt_W g z (mt_wc g ad lc mc bc N G o d) ad H) (ha : mt_arr g lc bc N k = some (g.2 0, n)) {i : Int32} (j : Nat) (hij : i = nI j) (hj : j < n) (hn : n < 2 ^ 31) (hdg : decode cc pc = .ok (.iaload, 1))
    (kk : W p l e R s m args below meth c H locs cells slots Q (F0 m (pc + 1) ls (.int (G k j) :: rest))) : W p l e R s m args below meth c H locs cells slots Q (F0 m pc ls (.int i :: .ref (ad k) :: rest)) := by
  subst hij
  refine wk_iald S hC hW ha (vp_in_nI hj hn) hdg ?_
  rw [nI_clamp (Nat.lt_trans hj hn)]; exact kk
theorem wk_zaln {k n : Nat} (S : CallFix p m c cc nL s args (w0 :: mt_T) own) (hC : mt_C g z s) (hW : mt_W g z (mt_wc g ad lc mc bc N G o d) ad H) (ha : mt_arr g lc bc N k = some (g.2 1, n)) {i : Int32} (j : Nat) (hij : i = nI j) (hj : j < n) (hn : n < 2 ^ 31) (hdg : decode cc pc = .ok (.baload, 1))
    (kk : W p l e R s m args below meth c H locs cells slots Q (F0 m (pc + 1) ls (.int (G k j) :: rest))) : W p l e R s m args below meth c H locs cells slots Q (F0 m pc ls (.int i :: .ref (ad k) :: rest)) := by
  subst hij
  refine wk_zald S hC hW ha (vp_in_nI hj hn) hdg ?_
  rw [nI_clamp (Nat.lt_trans hj hn)]; exact kk
theorem wk_alen {k n t : Nat} {ty : FieldType} (S : CallFix p m c cc nL s args (w0 :: mt_T) own) (hC : mt_C g z s) (hW : mt_W g z (mt_wc g ad lc mc bc N G o d) ad H) (ha : mt_arr g lc bc N k = some (g.2 t, n)) (ht : (mt_tys g)[t]? = some (g.2 t, ty)) (hdg : decode cc pc = .ok (.arraylength, 1))
    (kk : W p l e R s m args below meth c H locs cells slots Q (F0 m (pc + 1) ls (.int (nI n) :: rest))) : W p l e R s m args below meth c H locs cells slots Q (F0 m pc ls (.ref (ad k) :: rest)) := mt_alen S hC hW t ht (wc_arr ha) rfl hdg kk
/-- a row of references: what is there, or null -/
theorem wk_aald {k n b cnt : Nat} (S : CallFix p m c cc nL s args (w0 :: mt_T) own) (hC : mt_C g z s) (hW : mt_W g z w ad H) (t : Nat) {C : String} (ht : (mt_tys g)[t]? = some (g.2 t, .object C)) (he : w k = some (.inl (g.2 t, n, .inr (.inr (.inr (.inr (mt_rr ad b cnt))))))) {i : Int32} (hin : vp_in i n) (hdg : decode cc pc = .ok (.aaload, 1))
    (k1 : i.toNatClampNeg < cnt → W p l e R s m args below meth c H locs cells slots Q (F0 m (pc + 1) ls (.ref (ad (b + i.toNatClampNeg)) :: rest)))
    (k2 : ¬ i.toNatClampNeg < cnt → W p l e R s m args below meth c H locs cells slots Q (F0 m (pc + 1) ls (.null :: rest))) : W p l e R s m args below meth c H locs cells slots Q (F0 m pc ls (.int i :: .ref (ad k) :: rest)) := by
  refine mt_aald S hC hW t ht he hin hdg ?_
  unfold mt_rr
  by_cases h : i.toNatClampNeg < cnt
  · rw [if_pos h]; exact k1 h
  · rw [if_neg h]; exact k2 h
theorem wk_iast {k n : Nat} (S : CallFix p m c cc nL s args (w0 :: mt_T) own) (hC : mt_C g z s) (hW : mt_W g z (mt_wc g ad lc mc bc N G o d) ad H) (hS : va_S (mt_A z) s.heap H locs) (ha : mt_arr g lc bc N k = some (g.2 0, n)) {i x : Int32} (hin : vp_in i n) (hdg : decode cc pc = .ok (.iastore, 1))
    (kk : ∀ (H1 : Heap) (locs1 : List Loc), mt_W g z (mt_wc g ad lc mc bc N (mt_gu G k i.toNatClampNeg x) o d) ad H1 → va_S (mt_A z) s.heap H1 locs1 → W p l e R s m args below meth c H1 locs1 cells slots Q (F0 m (pc + 1) ls rest)) : W p l e R s m args below meth c H locs cells slots Q (F0 m pc ls (.int x :: .int i :: .ref (ad k) :: rest)) :=
  mt_iast S hC hW hS (wc_arr ha) hin hdg fun H1 l1 h1 h2 => kk H1 l1 (h1.to (wc_setg ha)) h2
theorem wk_iasn {k n : Nat} (S : CallFix p m c cc nL s args (w0 :: mt_T) own) (hC : mt_C g z s) (hW : mt_W g z (mt_wc g ad lc mc bc N G o d) ad H) (hS : va_S (mt_A z) s.heap H locs) (ha : mt_arr g lc bc N k = some (g.2 0, n)) {i x : Int32} (j : Nat) (hij : i = nI j) (hj : j < n) (hn : n < 2 ^ 31) (hdg : decode cc pc = .ok (.iastore, 1))
    (kk : ∀ (H1 : Heap) (locs1 : List Loc), mt_W g z (mt_wc g ad lc mc bc N (mt_gu G k j x) o d) ad H1 → va_S (mt_A z) s.heap H1 locs1 → W p l e R s m args below meth c H1 locs1 cells slots Q (F0 m (pc + 1) ls rest)) : W p l e R s m args below meth c H locs cells slots Q (F0 m pc ls (.int x :: .int i :: .ref (ad k) :: rest)) := by
  subst hij
  refine wk_iast S hC hW hS ha (vp_in_nI hj hn) hdg fun H1 l1 h1 h2 => ?_
  rw [nI_clamp (Nat.lt_trans hj hn)] at h1; exact kk H1 l1 h1 h2
theorem wk_zast {k n : Nat} (S : CallFix p m c cc nL s args (w0 :: mt_T) own) (hC : mt_C g z s) (hW : mt_W g z (mt_wc g ad lc mc bc N G o d) ad H) (hS : va_S (mt_A z) s.heap H locs) (ha : mt_arr g lc bc N k = some (g.2 1, n)) {i x : Int32} (hin : vp_in i n) (hnx : narrow .boolean (.int x) = .int x) (hdg : decode cc pc = .ok (.bastore, 1))
    (kk : ∀ (H1 : Heap) (locs1 : List Loc), mt_W g z (mt_wc g ad lc mc bc N (mt_gu G k i.toNatClampNeg x) o d) ad H1 → va_S (mt_A z) s.heap H1 locs1 → W p l e R s m args below meth c H1 locs1 cells slots Q (F0 m (pc + 1) ls rest)) : W p l e R s m args below meth c H locs cells slots Q (F0 m pc ls (.int x :: .int i :: .ref (ad k) :: rest)) :=
  mt_zast S hC hW hS (wc_arr ha) hin hnx hdg fun H1 l1 h1 h2 => kk H1 l1 (h1.to (wc_setg ha)) h2
theorem wk_zasn {k n : Nat} (S : CallFix p m c cc nL s args (w0 :: mt_T) own) (hC : mt_C g z s) (hW : mt_W g z (mt_wc g ad lc mc bc N G o d) ad H) (hS : va_S (mt_A z) s.heap H locs) (ha : mt_arr g lc bc N k = some (g.2 1, n)) {i x : Int32} (j : Nat) (hij : i = nI j) (hj : j < n) (hn : n < 2 ^ 31) (hnx : narrow .boolean (.int x) = .int x) (hdg : decode cc pc = .ok (.bastore, 1))
    (kk : ∀ (H1 : Heap) (locs1 : List Loc), mt_W g z (mt_wc g ad lc mc bc N (mt_gu G k j x) o d) ad H1 → va_S (mt_A z) s.heap H1 locs1 → W p l e R s m args below meth c H1 locs1 cells slots Q (F0 m (pc + 1) ls rest)) : W p l e R s m args below meth c H locs cells slots Q (F0 m pc ls (.int x :: .int i :: .ref (ad k) :: rest)) := by
  subst hij
  refine wk_zast S hC hW hS ha (vp_in_nI hj hn) hnx hdg fun H1 l1 h1 h2 => ?_
  rw [nI_clamp (Nat.lt_trans hj hn)] at h1; exact kk H1 l1 h1 h2
-- calls: their one answer known
section
variable {index : Nat} {y : MethodName} {bytes : ByteArray} {maxL : Nat} {ret : Option FieldType} {n fr lo mc1 ms1 : Nat} {b : Addr} {As : List Value} {r1 : mt_R} {ci k : Nat} {fs : List Value} {vc : vw_C}
theorem mt_cV1 {v : Value} (S : CallFix p m c cc nL s args (w0 :: mt_T) own) (P : mt_pV y bytes maxL ret n) (hlink : Cond.methodLink own index y ∈ mt_T) (hM : mt_K l g z y bytes maxL ret fr lo mc1 ms1 (.ref (ad k) :: As) w ad r1 w1 ad1) (hC : mt_C g z s) (hW : mt_W g z w ad H) (hS : va_S (mt_A z) s.heap H locs)
    (hrecv : w k = some (.inr (ci, fs))) (hci : vwCl[ci]? = some vc) (hcl : vc.1 = y.cls) (hn : As.length = n) (hl : ls.size = nL) (hst : st0 = As.reverse ++ .ref (ad k) :: rest) (hcat : (rest.map fun v => v.category).sum ≤ 8) (hdg : decode cc pc = .ok (.invokevirtual index, 3)) (hR : fr + 1 ≤ R.frames ∧ 8 + (maxL + 11) + lo ≤ R.locals) (hf : cells + mc1 ≤ R.cells ∧ slots + ms1 ≤ R.slots) (hres : r1 = .inr (some v))
    (kk : ∀ (H1 : Heap) (locs1 : List Loc), mt_W g z w1 ad1 H1 → va_S (mt_A z) s.heap H1 locs1 → W p l e R s m args below meth c H1 locs1 (cells + mc1) (slots + ms1) Q (F0 m (pc + 3) ls (v :: rest))) :
    W p l e R s m args below meth c H locs cells slots Q (F0 m pc ls st0) :=
  mt_cV0 S P hlink hM hC hW hS rfl hrecv hci hcl hn hl hst hcat hdg hR hf (fun H1 l1 v9 e h1 h2 => by rw [hres] at e; cases e; exact kk H1 l1 h1 h2) (fun H1 l1 E q ce e => by rw [hres] at e; cases e)
theorem mt_cVv (S : CallFix p m c cc nL s args (w0 :: mt_T) own) (P : mt_pV y bytes maxL ret n) (hlink : Cond.methodLink own index y ∈ mt_T) (hM : mt_K l g z y bytes maxL ret fr lo mc1 ms1 (.ref (ad k) :: As) w ad r1 w1 ad1) (hC : mt_C g z s) (hW : mt_W g z w ad H) (hS : va_S (mt_A z) s.heap H locs)
    (hrecv : w k = some (.inr (ci, fs))) (hci : vwCl[ci]? = some vc) (hcl : vc.1 = y.cls) (hn : As.length = n) (hl : ls.size = nL) (hst : st0 = As.reverse ++ .ref (ad k) :: rest) (hcat : (rest.map fun v => v.category).sum ≤ 8) (hdg : decode cc pc = .ok (.invokevirtual index, 3)) (hR : fr + 1 ≤ R.frames ∧ 8 + (maxL + 11) + lo ≤ R.locals) (hf : cells + mc1 ≤ R.cells ∧ slots + ms1 ≤ R.slots) (hres : r1 = .inr none)
    (kk : ∀ (H1 : Heap) (locs1 : List Loc), mt_W g z w1 ad1 H1 → va_S (mt_A z) s.heap H1 locs1 → W p l e R s m args below meth c H1 locs1 (cells + mc1) (slots + ms1) Q (F0 m (pc + 3) ls rest)) :
    W p l e R s m args below meth c H locs cells slots Q (F0 m pc ls st0) :=
  mt_cV0 S P hlink hM hC hW hS rfl hrecv hci hcl hn hl hst hcat hdg hR hf (fun H1 l1 v9 e h1 h2 => by rw [hres] at e; cases e; exact kk H1 l1 h1 h2) (fun H1 l1 E q ce e => by rw [hres] at e; cases e)
theorem mt_cVt {E : String} (S : CallFix p m c cc nL s args (w0 :: mt_T) own) (P : mt_pV y bytes maxL ret n) (hlink : Cond.methodLink own index y ∈ mt_T) (hM : mt_K l g z y bytes maxL ret fr lo mc1 ms1 (.ref (ad k) :: As) w ad r1 w1 ad1) (hC : mt_C g z s) (hW : mt_W g z w ad H) (hS : va_S (mt_A z) s.heap H locs)
    (hrecv : w k = some (.inr (ci, fs))) (hci : vwCl[ci]? = some vc) (hcl : vc.1 = y.cls) (hn : As.length = n) (hl : ls.size = nL) (hst : st0 = As.reverse ++ .ref (ad k) :: rest) (hcat : (rest.map fun v => v.category).sum ≤ 8) (hdg : decode cc pc = .ok (.invokevirtual index, 3)) (hR : fr + 1 ≤ R.frames ∧ 8 + (maxL + 11) + lo ≤ R.locals) (hf : cells + mc1 ≤ R.cells ∧ slots + ms1 ≤ R.slots) (hres : r1 = .inl E)
    (hout : ∀ x ∈ c.exceptionTable.toList, False) (hk : meth.locks = false) (hres0 : res = .inl E) (hw : w1 = w') (ha : ad1 = ad') (hc0 : cells + mc1 ≤ mc0) (hs0 : slots + ms1 ≤ ms0) :
    W p l e R s m args below meth c H locs cells slots (mt_E below g z w' ad' res args s mc0 ms0) (F0 m pc ls st0) := by
  subst hw; subst ha
  exact mt_cV0 S P hlink hM hC hW hS rfl hrecv hci hcl hn hl hst hcat hdg hR hf (fun H1 l1 v9 e => by rw [hres] at e; cases e) (fun H1 l1 E9 q ce e h1 h2 h3 h4 h5 => by rw [hres] at e; cases e; exact mt_out hout hk h1 h2 hres0 h3 h4 h5 hc0 hs0)
theorem mt_cS1 {v : Value} (S : CallFix p m c cc nL s args (w0 :: mt_T) own) (P : mt_pS y bytes maxL ret n) (hlink : Cond.methodLink own index y ∈ mt_T) (hM : mt_K l g z y bytes maxL ret fr lo mc1 ms1 As w ad r1 w1 ad1) (hC : mt_C g z s) (hW : mt_W g z w ad H) (hS : va_S (mt_A z) s.heap H locs)
    (hn : As.length = n) (hl : ls.size = nL) (hst : st0 = As.reverse ++ rest) (hcat : (rest.map fun v => v.category).sum ≤ 8) (hdg : decode cc pc = .ok (.invokestatic index, 3)) (hR : fr + 1 ≤ R.frames ∧ 8 + (maxL + 11) + lo ≤ R.locals) (hf : cells + mc1 ≤ R.cells ∧ slots + ms1 ≤ R.slots) (hres : r1 = .inr (some v))
    (kk : ∀ (H1 : Heap) (locs1 : List Loc), mt_W g z w1 ad1 H1 → va_S (mt_A z) s.heap H1 locs1 → W p l e R s m args below meth c H1 locs1 (cells + mc1) (slots + ms1) Q (F0 m (pc + 3) ls (v :: rest))) :
    W p l e R s m args below meth c H locs cells slots Q (F0 m pc ls st0) :=
  mt_cS0 S P hlink hM hC hW hS hn hl hst hcat hdg hR hf (fun H1 l1 v9 e h1 h2 => by rw [hres] at e; cases e; exact kk H1 l1 h1 h2) (fun H1 l1 E q ce e => by rw [hres] at e; cases e)
theorem mt_cSv (S : CallFix p m c cc nL s args (w0 :: mt_T) own) (P : mt_pS y bytes maxL ret n) (hlink : Cond.methodLink own index y ∈ mt_T) (hM : mt_K l g z y bytes maxL ret fr lo mc1 ms1 As w ad r1 w1 ad1) (hC : mt_C g z s) (hW : mt_W g z w ad H) (hS : va_S (mt_A z) s.heap H locs)
    (hn : As.length = n) (hl : ls.size = nL) (hst : st0 = As.reverse ++ rest) (hcat : (rest.map fun v => v.category).sum ≤ 8) (hdg : decode cc pc = .ok (.invokestatic index, 3)) (hR : fr + 1 ≤ R.frames ∧ 8 + (maxL + 11) + lo ≤ R.locals) (hf : cells + mc1 ≤ R.cells ∧ slots + ms1 ≤ R.slots) (hres : r1 = .inr none)
    (kk : ∀ (H1 : Heap) (locs1 : List Loc), mt_W g z w1 ad1 H1 → va_S (mt_A z) s.heap H1 locs1 → W p l e R s m args below meth c H1 locs1 (cells + mc1) (slots + ms1) Q (F0 m (pc + 3) ls rest)) :
    W p l e R s m args below meth c H locs cells slots Q (F0 m pc ls st0) :=
  mt_cS0 S P hlink hM hC hW hS hn hl hst hcat hdg hR hf (fun H1 l1 v9 e h1 h2 => by rw [hres] at e; cases e; exact kk H1 l1 h1 h2) (fun H1 l1 E q ce e => by rw [hres] at e; cases e)
theorem mt_cSt {E : String} (S : CallFix p m c cc nL s args (w0 :: mt_T) own) (P : mt_pS y bytes maxL ret n) (hlink : Cond.methodLink own index y ∈ mt_T) (hM : mt_K l g z y bytes maxL ret fr lo mc1 ms1 As w ad r1 w1 ad1) (hC : mt_C g z s) (hW : mt_W g z w ad H) (hS : va_S (mt_A z) s.heap H locs)
    (hn : As.length = n) (hl : ls.size = nL) (hst : st0 = As.reverse ++ rest) (hcat : (rest.map fun v => v.category).sum ≤ 8) (hdg : decode cc pc = .ok (.invokestatic index, 3)) (hR : fr + 1 ≤ R.frames ∧ 8 + (maxL + 11) + lo ≤ R.locals) (hf : cells + mc1 ≤ R.cells ∧ slots + ms1 ≤ R.slots) (hres : r1 = .inl E)
    (hout : ∀ x ∈ c.exceptionTable.toList, False) (hk : meth.locks = false) (hres0 : res = .inl E) (hw : w1 = w') (ha : ad1 = ad') (hc0 : cells + mc1 ≤ mc0) (hs0 : slots + ms1 ≤ ms0) :
    W p l e R s m args below meth c H locs cells slots (mt_E below g z w' ad' res args s mc0 ms0) (F0 m pc ls st0) := by
  subst hw; subst ha
  exact mt_cS0 S P hlink hM hC hW hS hn hl hst hcat hdg hR hf (fun H1 l1 v9 e => by rw [hres] at e; cases e) (fun H1 l1 E9 q ce e h1 h2 h3 h4 h5 => by rw [hres] at e; cases e; exact mt_out hout hk h1 h2 hres0 h3 h4 h5 hc0 hs0)
/-- a static method of the nest, of a method that never throws -/
theorem mt_cN1 {v : Value} {host : String} (S : CallFix p m c cc nL s args (w0 :: mt_T) own) (P : mt_pS y bytes maxL ret n) (hlink : Cond.methodLinkNest own index y host ∈ mt_bw) (hM : mt_K l g z y bytes maxL ret fr lo mc1 ms1 As w ad (.inr (some v)) w1 ad1) (hC : mt_C g z s) (hW : mt_W g z w ad H) (hS : va_S (mt_A z) s.heap H locs)
    (hn : As.length = n) (hl : ls.size = nL) (hst : st0 = As.reverse ++ rest) (hcat : (rest.map fun v => v.category).sum ≤ 8) (hdg : decode cc pc = .ok (.invokestatic index, 3)) (hR : fr + 1 ≤ R.frames ∧ 8 + (maxL + 11) + lo ≤ R.locals) (hf : cells + mc1 ≤ R.cells ∧ slots + ms1 ≤ R.slots)
    (kk : ∀ (H1 : Heap) (locs1 : List Loc), mt_W g z w1 ad1 H1 → va_S (mt_A z) s.heap H1 locs1 → W p l e R s m args below meth c H1 locs1 (cells + mc1) (slots + ms1) Q (F0 m (pc + 3) ls (v :: rest))) :
    W p l e R s m args below meth c H locs cells slots Q (F0 m pc ls st0) := by
  subst hst
  have hM' : Met l y (Cond.code y bytes maxL ret :: mt_T) ({ frames := fr, cells := mc1, slots := ms1, locals := lo }) (mt_Pc g z As w ad) (mt_Q g z w1 ad1 (.inr (some v))) mc1 ms1 (mt_A z) :=
    MetFree.mono hM (fun _ _ h => h) (fun _ _ _ _ _ h => h) (fun a st o t _ hq => by
      rcases hq with h | ⟨q, -, E, ce, L, ⟨h9, -⟩, -⟩
      · exact h
      · cases h9)
  obtain ⟨P1, P2, P3, P4, P5, P6⟩ := id P
  have hl9 := va_Nw.use (A := args) rfl (hC.2.2.2.2.2.1 _ hlink)
  have hcw := va_cnB (R := R) (s := s) (args := args) (own := own) (rm := { frames := fr, cells := mc1, slots := ms1, locals := lo }) (mc := mc1) (ms := ms1) n S.2.2.2.2 (mt_in (w0 := w0) (ws := Cond.code y bytes maxL ret :: mt_T) (fun w hw => (List.mem_cons.mp hw).elim (fun e => by rw [e]; exact P3) id)) rfl rfl rfl (hC.2.2.2.2.2.1 _ hlink) (S.2.2.2.2 _ (List.mem_cons_of_mem _ P2)) ⟨P4, P5, P6⟩ hR
  have hr := va_runSN (rest := rest) (g := F0 m pc ls (As.reverse ++ rest)) (cells := cells) (slots := slots) (locs := locs) (below := below) (meth := meth) (e := e) (H := H) S hM' ⟨hcw, S.2.2.2.2 _ (List.mem_cons_of_mem _ P1), trivial⟩ ⟨mt_blind, fun U hU hW9 => ⟨rfl, hC.go hS hU hW9, by rw [hU]; exact hW⟩⟩ rfl hn hl rfl (lv_room hcat) hdg hf
  intro T hT X
  obtain ⟨v', st₀, t, T', L, h0, X', hL, e1, e2, ⟨v9, hv1, hv2, hw1, hF⟩, st⟩ := hr T hT X
  obtain ⟨k1, k2, k3⟩ := vx_keep h0 e1 hS (fun _ _ h => h) (fun _ h => h) hL hF
  cases hv1; cases hv2
  obtain ⟨t2, a1, b1⟩ := kk T'.heap (locs ++ L) (by rw [e1]; exact hw1) k3 T' rfl X'
  exact ⟨t2, st t2 a1, b1⟩
end
end MTV
end
section
def ocase {α : Type} (r : Option Nat) (a : α) (f : Nat → α) : α := match r with | none => a | some i => f i
theorem ocase_n {α : Type} {r : Option Nat} {a : α} {f : Nat → α} (h : r = none) : ocase r a f = a := by rw [h]; rfl
theorem ocase_s {α : Type} {r : Option Nat} {a : α} {f : Nat → α} {i : Nat} (h : r = some i) : ocase r a f = f i := by rw [h]; rfl
def scase {α β : Type} (r : String ⊕ α) (a : String → β) (f : α → β) : β := match r with | .inl E => a E | .inr x => f x
theorem scase_l {α β : Type} {r : String ⊕ α} {a : String → β} {f : α → β} {E : String} (h : r = .inl E) : scase r a f = a E := by rw [h]; rfl
theorem scase_r {α β : Type} {r : String ⊕ α} {a : String → β} {f : α → β} {x : α} (h : r = .inr x) : scase r a f = f x := by rw [h]; rfl
def xr_i (r : String ⊕ Int32) : mt_R := match r with | .inl E => .inl E | .inr x => .inr (some (.int x))
def xr_u (r : String ⊕ Unit) : mt_R := match r with | .inl E => .inl E | .inr _ => .inr none
def xr_f (r : String ⊕ UInt32) : mt_R := match r with | .inl E => .inl E | .inr x => .inr (some (.float x))
def xr_d (r : String ⊕ UInt64) : mt_R := match r with | .inl E => .inl E | .inr x => .inr (some (.double x))
def xr_n (ad : Nat → Nat) (b : Nat) (r : String ⊕ Nat) : mt_R := match r with | .inl E => .inl E | .inr i => .inr (some (.ref (ad (b + i))))
def xr_a (ad : Nat → Nat) (b : Nat) (r : Option Nat) : mt_R := .inr (some (va_rf (r.map (fun i => ad (b + i)))))
section LP
variable {p : Program} {l : Launch} {e : Env} {R : Room} {s : State} {m : MethodId} {args : Array Value} {below : List Frame} {meth : Method} {c : Code} {H : Heap} {locs : List Loc} {cells slots : Nat} {Q : State → Prop} {nL head : Nat} {ls : Array Slot} {stk : List Value} {g : mt_G} {z : Nat} {ad : Nat → Nat}
/-- a loop that counts from k0 up to n0 -/
theorem lp_up (n0 : Nat) (w : Nat → mt_w) (L : Nat → List (Nat × Value)) (P : Nat → Prop) (k0 : Nat) (hk0 : k0 ≤ n0) (hP : P k0) (hW : mt_W g z (w k0) ad H) (hS : va_S (mt_A z) s.heap H locs) (hl : lv_has ls nL (L k0))
    (hexit : ∀ (H : Heap) (locs : List Loc) (ls : Array Slot), P n0 → mt_W g z (w n0) ad H → va_S (mt_A z) s.heap H locs → lv_has ls nL (L n0) → W p l e R s m args below meth c H locs cells slots Q (F0 m head ls stk))
    (hbody : ∀ (k : Nat) (H : Heap) (locs : List Loc) (ls : Array Slot), k0 ≤ k → k < n0 → P k → mt_W g z (w k) ad H → va_S (mt_A z) s.heap H locs → lv_has ls nL (L k) → (∀ (H1 : Heap) (locs1 : List Loc) (ls1 : Array Slot), P (k + 1) → mt_W g z (w (k + 1)) ad H1 → va_S (mt_A z) s.heap H1 locs1 → lv_has ls1 nL (L (k + 1)) → W p l e R s m args below meth c H1 locs1 cells slots Q (F0 m head ls1 stk)) → W p l e R s m args below meth c H locs cells slots Q (F0 m head ls stk)) :
    W p l e R s m args below meth c H locs cells slots Q (F0 m head ls stk) := by
  have key : ∀ (n k : Nat), k + n = n0 → k0 ≤ k → ∀ (H : Heap) (locs : List Loc) (ls : Array Slot), P k → mt_W g z (w k) ad H → va_S (mt_A z) s.heap H locs → lv_has ls nL (L k) → W p l e R s m args below meth c H locs cells slots Q (F0 m head ls stk) := by
    intro n
    induction n with
    | zero =>
      intro k hk _ H locs ls hP hW hS hl
      have hk : k = n0 := by omega
      rw [hk] at hP hW hl
      exact hexit H locs ls hP hW hS hl
    | succ n ih =>
      intro k hk hkk H locs ls hP hW hS hl
      exact hbody k H locs ls hkk (by omega) hP hW hS hl (fun H1 l1 ls1 h1 h2 h3 h4 => ih (k + 1) (by omega) (by omega) H1 l1 ls1 h1 h2 h3 h4)
  exact key (n0 - k0) k0 (by omega) (Nat.le_refl _) H locs ls hP hW hS hl
/-- a loop that ends by itself, after at most n0 rounds -/
theorem lp_any (n0 : Nat) (w : Nat → mt_w) (L : Nat → List (Nat × Value)) (P : Nat → Prop) (k0 : Nat) (hk0 : k0 ≤ n0) (hP : P k0) (hW : mt_W g z (w k0) ad H) (hS : va_S (mt_A z) s.heap H locs) (hl : lv_has ls nL (L k0))
    (hbody : ∀ (k : Nat) (H : Heap) (locs : List Loc) (ls : Array Slot), k0 ≤ k → k ≤ n0 → P k → mt_W g z (w k) ad H → va_S (mt_A z) s.heap H locs → lv_has ls nL (L k) → (k < n0 → ∀ (H1 : Heap) (locs1 : List Loc) (ls1 : Array Slot), P (k + 1) → mt_W g z (w (k + 1)) ad H1 → va_S (mt_A z) s.heap H1 locs1 → lv_has ls1 nL (L (k + 1)) → W p l e R s m args below meth c H1 locs1 cells slots Q (F0 m head ls1 stk)) → W p l e R s m args below meth c H locs cells slots Q (F0 m head ls stk)) :
    W p l e R s m args below meth c H locs cells slots Q (F0 m head ls stk) := by
  have key : ∀ (n k : Nat), k + n = n0 → k0 ≤ k → ∀ (H : Heap) (locs : List Loc) (ls : Array Slot), P k → mt_W g z (w k) ad H → va_S (mt_A z) s.heap H locs → lv_has ls nL (L k) → W p l e R s m args below meth c H locs cells slots Q (F0 m head ls stk) := by
    intro n
    induction n with
    | zero =>
      intro k hk hkk H locs ls hP hW hS hl
      exact hbody k H locs ls hkk (by omega) hP hW hS hl (fun h9 => absurd h9 (by omega))
    | succ n ih =>
      intro k hk hkk H locs ls hP hW hS hl
      exact hbody k H locs ls hkk (by omega) hP hW hS hl (fun _ H1 l1 ls1 h1 h2 h3 h4 => ih (k + 1) (by omega) (by omega) H1 l1 ls1 h1 h2 h3 h4)
  exact key (n0 - k0) k0 (by omega) (Nat.le_refl _) H locs ls hP hW hS hl
end LP
end
section
theorem iw_X0 : ∀ w ∈ u_ws RX0 TX0 2, w ∈ mt_T := by
  intro w hw
  obtain ⟨k, hk, rfl⟩ := List.mem_map.mp hw
  have hk := List.mem_range.mp hk
  match k, hk with
  | 0, _ => exact mw_la_X0_X0_isOfSeen
  | 1, _ => exact mw_la_X0_X0_sizes
  | j + 2, h => exact absurd h (by omega)
theorem iw_X1 : ∀ w ∈ u_ws RX1 TX1 4, w ∈ mt_T := by
  intro w hw
  obtain ⟨k, hk, rfl⟩ := List.mem_map.mp hw
  have hk := List.mem_range.mp hk
  match k, hk with
  | 0, _ => exact mw_la_X1_X1_kinds
  | 1, _ => exact mw_la_X1_X1_owners
  | 2, _ => exact mw_la_X1_X1_values
  | 3, _ => exact mw_la_X1_X1_isCounted
  | j + 4, h => exact absurd h (by omega)
theorem iw_X2 : ∀ w ∈ u_ws RX2 TX2 5, w ∈ mt_T := by
  intro w hw
  obtain ⟨k, hk, rfl⟩ := List.mem_map.mp hw
  have hk := List.mem_range.mp hk
  match k, hk with
  | 0, _ => exact mw_la_X2_X2_lower
  | 1, _ => exact mw_la_X2_X2_upper
  | 2, _ => exact mw_la_X2_X2_point
  | 3, _ => exact mw_la_X2_X2_isThere
  | 4, _ => exact mw_la_X2_X2_isCrossing
  | j + 5, h => exact absurd h (by omega)
theorem iw_X3 : ∀ w ∈ u_ws RX3 TX3 11, w ∈ mt_T := by
  intro w hw
  obtain ⟨k, hk, rfl⟩ := List.mem_map.mp hw
  have hk := List.mem_range.mp hk
  match k, hk with
  | 0, _ => exact mw_la_X3_X3_layers
  | 1, _ => exact mw_la_X3_X3_mounts
  | 2, _ => exact mw_la_X3_X3_backups
  | 3, _ => exact mw_la_X3_X3_used
  | 4, _ => exact mw_la_X3_X3_quotas
  | 5, _ => exact mw_la_X3_X3_servers
  | 6, _ => exact mw_la_X3_X3_rests
  | 7, _ => exact mw_la_X3_X3_layerCount
  | 8, _ => exact mw_la_X3_X3_mountCount
  | 9, _ => exact mw_la_X3_X3_backupCount
  | 10, _ => exact mw_la_X3_X3_copyCount
  | j + 11, h => exact absurd h (by omega)
theorem iw_X4 : ∀ w ∈ u_ws RX4 TX4 16, w ∈ mt_T := by
  intro w hw
  obtain ⟨k, hk, rfl⟩ := List.mem_map.mp hw
  have hk := List.mem_range.mp hk
  match k, hk with
  | 0, _ => exact mw_la_X4_X4_kinds
  | 1, _ => exact mw_la_X4_X4_owners
  | 2, _ => exact mw_la_X4_X4_values
  | 3, _ => exact mw_la_X4_X4_layers
  | 4, _ => exact mw_la_X4_X4_points
  | 5, _ => exact mw_la_X4_X4_lowers
  | 6, _ => exact mw_la_X4_X4_uppers
  | 7, _ => exact mw_la_X4_X4_isThere
  | 8, _ => exact mw_la_X4_X4_isCrossing
  | 9, _ => exact mw_la_X4_X4_mounts
  | 10, _ => exact mw_la_X4_X4_quotas
  | 11, _ => exact mw_la_X4_X4_copies
  | 12, _ => exact mw_la_X4_X4_kept
  | 13, _ => exact mw_la_X4_X4_isSeen
  | 14, _ => exact mw_la_X4_X4_backups
  | 15, _ => exact mw_la_X4_X4_thrown
  | j + 16, h => exact absurd h (by omega)
theorem pv_X0_sum : mt_pV yX0_sum cX0_sum 3 (some .int) 0 := ⟨mw_im_X0_sum, mw_se_X0_X0_sum, mw_in_X0, mw_co_X0_sum, by decide +kernel, by decide +kernel, by decide +kernel⟩
theorem pv_X1_allBytesOfFiles : mt_pV yX1_allBytesOfFiles cX1_allBytesOfFiles 3 (some .int) 0 := ⟨mw_im_X1_allBytesOfFiles, mw_se_X1_X1_allBytesOfFiles, mw_in_X1, mw_co_X1_allBytesOfFiles, by decide +kernel, by decide +kernel, by decide +kernel⟩
theorem pv_X1_bytesAt : mt_pV yX1_bytesAt cX1_bytesAt 2 (some .int) 1 := ⟨mw_im_X1_bytesAt, mw_se_X1_X1_bytesAt, mw_in_X1, mw_co_X1_bytesAt, by decide +kernel, by decide +kernel, by decide +kernel⟩
theorem pv_X1_bytesNotYetCounted : mt_pV yX1_bytesNotYetCounted cX1_bytesNotYetCounted 2 (some .int) 1 := ⟨mw_im_X1_bytesNotYetCounted, mw_se_X1_X1_bytesNotYetCounted, mw_in_X1, mw_co_X1_bytesNotYetCounted, by decide +kernel, by decide +kernel, by decide +kernel⟩
theorem pv_X1_bytesOfOwner : mt_pV yX1_bytesOfOwner cX1_bytesOfOwner 4 (some .int) 1 := ⟨mw_im_X1_bytesOfOwner, mw_se_X1_X1_bytesOfOwner, mw_in_X1, mw_co_X1_bytesOfOwner, by decide +kernel, by decide +kernel, by decide +kernel⟩
theorem pv_X1_bytesOfOwnerAt : mt_pV yX1_bytesOfOwnerAt cX1_bytesOfOwnerAt 3 (some .int) 2 := ⟨mw_im_X1_bytesOfOwnerAt, mw_se_X1_X1_bytesOfOwnerAt, mw_in_X1, mw_co_X1_bytesOfOwnerAt, by decide +kernel, by decide +kernel, by decide +kernel⟩
theorem pv_X1_countOf : mt_pV yX1_countOf cX1_countOf 4 (some .int) 1 := ⟨mw_im_X1_countOf, mw_se_X1_X1_countOf, mw_in_X1, mw_co_X1_countOf, by decide +kernel, by decide +kernel, by decide +kernel⟩
theorem pv_X1_fileSizeAt : mt_pV yX1_fileSizeAt cX1_fileSizeAt 2 (some .int) 1 := ⟨mw_im_X1_fileSizeAt, mw_se_X1_X1_fileSizeAt, mw_in_X1, mw_co_X1_fileSizeAt, by decide +kernel, by decide +kernel, by decide +kernel⟩
theorem pv_X1_forgetCounted : mt_pV yX1_forgetCounted cX1_forgetCounted 2 none 0 := ⟨mw_im_X1_forgetCounted, mw_se_X1_X1_forgetCounted, mw_in_X1, mw_co_X1_forgetCounted, by decide +kernel, by decide +kernel, by decide +kernel⟩
theorem pv_X1_kindAt : mt_pV yX1_kindAt cX1_kindAt 2 (some .int) 1 := ⟨mw_im_X1_kindAt, mw_se_X1_X1_kindAt, mw_in_X1, mw_co_X1_kindAt, by decide +kernel, by decide +kernel, by decide +kernel⟩
theorem pv_X1_ownerAt : mt_pV yX1_ownerAt cX1_ownerAt 2 (some .int) 1 := ⟨mw_im_X1_ownerAt, mw_se_X1_X1_ownerAt, mw_in_X1, mw_co_X1_ownerAt, by decide +kernel, by decide +kernel, by decide +kernel⟩
theorem pv_X1_put : mt_pV yX1_put cX1_put 5 none 4 := ⟨mw_im_X1_put, mw_se_X1_X1_put, mw_in_X1, mw_co_X1_put, by decide +kernel, by decide +kernel, by decide +kernel⟩
theorem pv_X1_valueAt : mt_pV yX1_valueAt cX1_valueAt 2 (some .int) 1 := ⟨mw_im_X1_valueAt, mw_se_X1_X1_valueAt, mw_in_X1, mw_co_X1_valueAt, by decide +kernel, by decide +kernel, by decide +kernel⟩
theorem pv_X2_written : mt_pV yX2_written cX2_written 1 (some .int) 0 := ⟨mw_im_X2_written, mw_se_X2_X2_written, mw_in_X2, mw_co_X2_written, by decide +kernel, by decide +kernel, by decide +kernel⟩
theorem pv_X3_addLayer : mt_pV yX3_addLayer cX3_addLayer 2 (some .int) 0 := ⟨mw_im_X3_addLayer, mw_se_X3_X3_addLayer, mw_in_X3, mw_co_X3_addLayer, by decide +kernel, by decide +kernel, by decide +kernel⟩
theorem pv_X3_allBytes : mt_pV yX3_allBytes cX3_allBytes 3 (some .int) 0 := ⟨mw_im_X3_allBytes, mw_se_X3_X3_allBytes, mw_in_X3, mw_co_X3_allBytes, by decide +kernel, by decide +kernel, by decide +kernel⟩
theorem pv_X3_backUp : mt_pV yX3_backUp cX3_backUp 4 (some .int) 1 := ⟨mw_im_X3_backUp, mw_se_X3_X3_backUp, mw_in_X3, mw_co_X3_backUp, by decide +kernel, by decide +kernel, by decide +kernel⟩
theorem pv_X3_bytes : mt_pV yX3_bytes cX3_bytes 2 (some .int) 1 := ⟨mw_im_X3_bytes, mw_se_X3_X3_bytes, mw_in_X3, mw_co_X3_bytes, by decide +kernel, by decide +kernel, by decide +kernel⟩
theorem pv_X3_change : mt_pV yX3_change cX3_change 6 none 5 := ⟨mw_im_X3_change, mw_se_X3_X3_change, mw_in_X3, mw_co_X3_change, by decide +kernel, by decide +kernel, by decide +kernel⟩
theorem ps_X3_checkOwner : mt_pS yX3_checkOwner cX3_checkOwner 1 none 1 := ⟨mw_st_X3_checkOwner, mw_in_X3, mw_co_X3_checkOwner, by decide +kernel, by decide +kernel, by decide +kernel⟩
theorem pv_X3_checkedBackup : mt_pV yX3_checkedBackup cX3_checkedBackup 3 (some (.object "MountTable$Backup")) 1 := ⟨mw_im_X3_checkedBackup, mw_se_X3_X3_checkedBackup, mw_in_X3, mw_co_X3_checkedBackup, by decide +kernel, by decide +kernel, by decide +kernel⟩
theorem pv_X3_checkedLayer : mt_pV yX3_checkedLayer cX3_checkedLayer 3 (some (.object "MountTable$Layer")) 1 := ⟨mw_im_X3_checkedLayer, mw_se_X3_X3_checkedLayer, mw_in_X3, mw_co_X3_checkedLayer, by decide +kernel, by decide +kernel, by decide +kernel⟩
theorem pv_X3_checkedMount : mt_pV yX3_checkedMount cX3_checkedMount 3 (some (.object "MountTable$Mount")) 1 := ⟨mw_im_X3_checkedMount, mw_se_X3_X3_checkedMount, mw_in_X3, mw_co_X3_checkedMount, by decide +kernel, by decide +kernel, by decide +kernel⟩
theorem ps_X3_checkedPlace : mt_pS yX3_checkedPlace cX3_checkedPlace 2 (some .int) 1 := ⟨mw_st_X3_checkedPlace, mw_in_X3, mw_co_X3_checkedPlace, by decide +kernel, by decide +kernel, by decide +kernel⟩
theorem pv_X3_checkedShown : mt_pV yX3_checkedShown cX3_checkedShown 3 (some (.object "MountTable$Layer")) 1 := ⟨mw_im_X3_checkedShown, mw_se_X3_X3_checkedShown, mw_in_X3, mw_co_X3_checkedShown, by decide +kernel, by decide +kernel, by decide +kernel⟩
theorem pv_X3_copies : mt_pV yX3_copies cX3_copies 1 (some .int) 0 := ⟨mw_im_X3_copies, mw_se_X3_X3_copies, mw_in_X3, mw_co_X3_copies, by decide +kernel, by decide +kernel, by decide +kernel⟩
theorem pv_X3_covered : mt_pV yX3_covered cX3_covered 4 (some .int) 0 := ⟨mw_im_X3_covered, mw_se_X3_X3_covered, mw_in_X3, mw_co_X3_covered, by decide +kernel, by decide +kernel, by decide +kernel⟩
theorem pv_X3_differences : mt_pV yX3_differences cX3_differences 5 (some .int) 1 := ⟨mw_im_X3_differences, mw_se_X3_X3_differences, mw_in_X3, mw_co_X3_differences, by decide +kernel, by decide +kernel, by decide +kernel⟩
theorem pv_X3_end : mt_pV yX3_end cX3_end 2 (some .int) 1 := ⟨mw_im_X3_end, mw_se_X3_X3_end, mw_in_X3, mw_co_X3_end, by decide +kernel, by decide +kernel, by decide +kernel⟩
theorem pv_X3_endOfLinks : mt_pV yX3_endOfLinks cX3_endOfLinks 7 (some .int) 1 := ⟨mw_im_X3_endOfLinks, mw_se_X3_X3_endOfLinks, mw_in_X3, mw_co_X3_endOfLinks, by decide +kernel, by decide +kernel, by decide +kernel⟩
theorem pv_X3_fileSizeIn : mt_pV yX3_fileSizeIn cX3_fileSizeIn 4 (some .int) 2 := ⟨mw_im_X3_fileSizeIn, mw_se_X3_X3_fileSizeIn, mw_in_X3, mw_co_X3_fileSizeIn, by decide +kernel, by decide +kernel, by decide +kernel⟩
theorem pv_X3_hidden : mt_pV yX3_hidden cX3_hidden 1 (some .int) 0 := ⟨mw_im_X3_hidden, mw_se_X3_X3_hidden, mw_in_X3, mw_co_X3_hidden, by decide +kernel, by decide +kernel, by decide +kernel⟩
theorem pv_X3_isInSome : mt_pV yX3_isInSome cX3_isInSome 4 (some .boolean) 1 := ⟨mw_im_X3_isInSome, mw_se_X3_X3_isInSome, mw_in_X3, mw_co_X3_isInSome, by decide +kernel, by decide +kernel, by decide +kernel⟩
theorem ps_X3_isOwner : mt_pS yX3_isOwner cX3_isOwner 1 (some .boolean) 1 := ⟨mw_st_X3_isOwner, mw_in_X3, mw_co_X3_isOwner, by decide +kernel, by decide +kernel, by decide +kernel⟩
theorem ps_X3_isPlace : mt_pS yX3_isPlace cX3_isPlace 1 (some .boolean) 1 := ⟨mw_st_X3_isPlace, mw_in_X3, mw_co_X3_isPlace, by decide +kernel, by decide +kernel, by decide +kernel⟩
theorem ps_X3_isThing : mt_pS yX3_isThing cX3_isThing 1 (some .boolean) 1 := ⟨mw_st_X3_isThing, mw_in_X3, mw_co_X3_isThing, by decide +kernel, by decide +kernel, by decide +kernel⟩
theorem pv_X3_isUpperOfSome : mt_pV yX3_isUpperOfSome cX3_isUpperOfSome 4 (some .boolean) 1 := ⟨mw_im_X3_isUpperOfSome, mw_se_X3_X3_isUpperOfSome, mw_in_X3, mw_co_X3_isUpperOfSome, by decide +kernel, by decide +kernel, by decide +kernel⟩
theorem pv_X3_kindIn : mt_pV yX3_kindIn cX3_kindIn 4 (some .int) 2 := ⟨mw_im_X3_kindIn, mw_se_X3_X3_kindIn, mw_in_X3, mw_co_X3_kindIn, by decide +kernel, by decide +kernel, by decide +kernel⟩
theorem pv_X3_layerAt : mt_pV yX3_layerAt cX3_layerAt 2 (some (.object "MountTable$Layer")) 1 := ⟨mw_im_X3_layerAt, mw_se_X3_X3_layerAt, mw_in_X3, mw_co_X3_layerAt, by decide +kernel, by decide +kernel, by decide +kernel⟩
theorem pv_X3_layerOf : mt_pV yX3_layerOf cX3_layerOf 3 (some .int) 1 := ⟨mw_im_X3_layerOf, mw_se_X3_X3_layerOf, mw_in_X3, mw_co_X3_layerOf, by decide +kernel, by decide +kernel, by decide +kernel⟩
theorem pv_X3_layerShown : mt_pV yX3_layerShown cX3_layerShown 2 (some .int) 1 := ⟨mw_im_X3_layerShown, mw_se_X3_X3_layerShown, mw_in_X3, mw_co_X3_layerShown, by decide +kernel, by decide +kernel, by decide +kernel⟩
theorem pv_X3_layerShownBy : mt_pV yX3_layerShownBy cX3_layerShownBy 4 (some .int) 2 := ⟨mw_im_X3_layerShownBy, mw_se_X3_X3_layerShownBy, mw_in_X3, mw_co_X3_layerShownBy, by decide +kernel, by decide +kernel, by decide +kernel⟩
theorem pv_X3_layerToWrite : mt_pV yX3_layerToWrite cX3_layerToWrite 4 (some (.object "MountTable$Layer")) 1 := ⟨mw_im_X3_layerToWrite, mw_se_X3_X3_layerToWrite, mw_in_X3, mw_co_X3_layerToWrite, by decide +kernel, by decide +kernel, by decide +kernel⟩
theorem pv_X3_link : mt_pV yX3_link cX3_link 8 (some .int) 3 := ⟨mw_im_X3_link, mw_se_X3_X3_link, mw_in_X3, mw_co_X3_link, by decide +kernel, by decide +kernel, by decide +kernel⟩
theorem pv_X3_mayLead : mt_pV yX3_mayLead cX3_mayLead 4 (some .boolean) 2 := ⟨mw_im_X3_mayLead, mw_se_X3_X3_mayLead, mw_in_X3, mw_co_X3_mayLead, by decide +kernel, by decide +kernel, by decide +kernel⟩
theorem pv_X3_meanSize : mt_pV yX3_meanSize cX3_meanSize 4 (some .double) 1 := ⟨mw_im_X3_meanSize, mw_se_X3_X3_meanSize, mw_in_X3, mw_co_X3_meanSize, by decide +kernel, by decide +kernel, by decide +kernel⟩
theorem pv_X3_mount : mt_pV yX3_mount cX3_mount 6 (some .int) 3 := ⟨mw_im_X3_mount, mw_se_X3_X3_mount, mw_in_X3, mw_co_X3_mount, by decide +kernel, by decide +kernel, by decide +kernel⟩
theorem pv_X3_mountThere : mt_pV yX3_mountThere cX3_mountThere 3 (some (.object "MountTable$Mount")) 1 := ⟨mw_im_X3_mountThere, mw_se_X3_X3_mountThere, mw_in_X3, mw_co_X3_mountThere, by decide +kernel, by decide +kernel, by decide +kernel⟩
theorem pv_X3_move : mt_pV yX3_move cX3_move 5 (some .int) 2 := ⟨mw_im_X3_move, mw_se_X3_X3_move, mw_in_X3, mw_co_X3_move, by decide +kernel, by decide +kernel, by decide +kernel⟩
theorem pv_X3_ownerOf : mt_pV yX3_ownerOf cX3_ownerOf 3 (some .int) 1 := ⟨mw_im_X3_ownerOf, mw_se_X3_X3_ownerOf, mw_in_X3, mw_co_X3_ownerOf, by decide +kernel, by decide +kernel, by decide +kernel⟩
theorem ps_X3_placeOf : mt_pS yX3_placeOf cX3_placeOf 5 (some .int) 1 := ⟨mw_st_X3_placeOf, mw_in_X3, mw_co_X3_placeOf, by decide +kernel, by decide +kernel, by decide +kernel⟩
theorem pv_X3_putAt : mt_pV yX3_putAt cX3_putAt 7 none 5 := ⟨mw_im_X3_putAt, mw_se_X3_X3_putAt, mw_in_X3, mw_co_X3_putAt, by decide +kernel, by decide +kernel, by decide +kernel⟩
theorem pv_X3_quotaOf : mt_pV yX3_quotaOf cX3_quotaOf 2 (some .int) 1 := ⟨mw_im_X3_quotaOf, mw_se_X3_X3_quotaOf, mw_in_X3, mw_co_X3_quotaOf, by decide +kernel, by decide +kernel, by decide +kernel⟩
theorem pv_X3_remove : mt_pV yX3_remove cX3_remove 7 (some .int) 1 := ⟨mw_im_X3_remove, mw_se_X3_X3_remove, mw_in_X3, mw_co_X3_remove, by decide +kernel, by decide +kernel, by decide +kernel⟩
theorem pv_X3_restAt : mt_pV yX3_restAt cX3_restAt 2 (some .int) 1 := ⟨mw_im_X3_restAt, mw_se_X3_X3_restAt, mw_in_X3, mw_co_X3_restAt, by decide +kernel, by decide +kernel, by decide +kernel⟩
theorem ps_X3_restBehind : mt_pS yX3_restBehind cX3_restBehind 4 (some .int) 2 := ⟨mw_st_X3_restBehind, mw_in_X3, mw_co_X3_restBehind, by decide +kernel, by decide +kernel, by decide +kernel⟩
theorem pv_X3_serveAgain : mt_pV yX3_serveAgain cX3_serveAgain 3 none 0 := ⟨mw_im_X3_serveAgain, mw_se_X3_X3_serveAgain, mw_in_X3, mw_co_X3_serveAgain, by decide +kernel, by decide +kernel, by decide +kernel⟩
theorem pv_X3_serveBehind : mt_pV yX3_serveBehind cX3_serveBehind 9 none 2 := ⟨mw_im_X3_serveBehind, mw_se_X3_X3_serveBehind, mw_in_X3, mw_co_X3_serveBehind, by decide +kernel, by decide +kernel, by decide +kernel⟩
theorem pv_X3_served : mt_pV yX3_served cX3_served 3 (some .int) 1 := ⟨mw_im_X3_served, mw_se_X3_X3_served, mw_in_X3, mw_co_X3_served, by decide +kernel, by decide +kernel, by decide +kernel⟩
theorem pv_X3_serverAt : mt_pV yX3_serverAt cX3_serverAt 2 (some .int) 1 := ⟨mw_im_X3_serverAt, mw_se_X3_X3_serverAt, mw_in_X3, mw_co_X3_serverAt, by decide +kernel, by decide +kernel, by decide +kernel⟩
theorem pv_X3_setCrossing : mt_pV yX3_setCrossing cX3_setCrossing 5 (some .boolean) 2 := ⟨mw_im_X3_setCrossing, mw_se_X3_X3_setCrossing, mw_in_X3, mw_co_X3_setCrossing, by decide +kernel, by decide +kernel, by decide +kernel⟩
theorem pv_X3_setQuota : mt_pV yX3_setQuota cX3_setQuota 4 (some .int) 2 := ⟨mw_im_X3_setQuota, mw_se_X3_X3_setQuota, mw_in_X3, mw_co_X3_setQuota, by decide +kernel, by decide +kernel, by decide +kernel⟩
theorem pv_X3_shownBytes : mt_pV yX3_shownBytes cX3_shownBytes 4 (some .int) 0 := ⟨mw_im_X3_shownBytes, mw_se_X3_X3_shownBytes, mw_in_X3, mw_co_X3_shownBytes, by decide +kernel, by decide +kernel, by decide +kernel⟩
theorem pv_X3_shownFileSize : mt_pV yX3_shownFileSize cX3_shownFileSize 2 (some .int) 1 := ⟨mw_im_X3_shownFileSize, mw_se_X3_X3_shownFileSize, mw_in_X3, mw_co_X3_shownFileSize, by decide +kernel, by decide +kernel, by decide +kernel⟩
theorem pv_X3_shownShare : mt_pV yX3_shownShare cX3_shownShare 2 (some .float) 0 := ⟨mw_im_X3_shownShare, mw_se_X3_X3_shownShare, mw_in_X3, mw_co_X3_shownShare, by decide +kernel, by decide +kernel, by decide +kernel⟩
theorem pv_X3_shows : mt_pV yX3_shows cX3_shows 3 (some .char) 1 := ⟨mw_im_X3_shows, mw_se_X3_X3_shows, mw_in_X3, mw_co_X3_shows, by decide +kernel, by decide +kernel, by decide +kernel⟩
theorem pv_X3_size : mt_pV yX3_size cX3_size 3 (some .int) 1 := ⟨mw_im_X3_size, mw_se_X3_X3_size, mw_in_X3, mw_co_X3_size, by decide +kernel, by decide +kernel, by decide +kernel⟩
theorem pv_X3_sizeByWalking : mt_pV yX3_sizeByWalking cX3_sizeByWalking 6 (some .int) 1 := ⟨mw_im_X3_sizeByWalking, mw_se_X3_X3_sizeByWalking, mw_in_X3, mw_co_X3_sizeByWalking, by decide +kernel, by decide +kernel, by decide +kernel⟩
theorem pv_X3_sizeNow : mt_pV yX3_sizeNow cX3_sizeNow 3 (some .int) 2 := ⟨mw_im_X3_sizeNow, mw_se_X3_X3_sizeNow, mw_in_X3, mw_co_X3_sizeNow, by decide +kernel, by decide +kernel, by decide +kernel⟩
theorem pv_X3_unmount : mt_pV yX3_unmount cX3_unmount 4 (some .int) 1 := ⟨mw_im_X3_unmount, mw_se_X3_X3_unmount, mw_in_X3, mw_co_X3_unmount, by decide +kernel, by decide +kernel, by decide +kernel⟩
theorem pv_X3_use : mt_pV yX3_use cX3_use 3 none 2 := ⟨mw_im_X3_use, mw_se_X3_X3_use, mw_in_X3, mw_co_X3_use, by decide +kernel, by decide +kernel, by decide +kernel⟩
theorem pv_X3_used : mt_pV yX3_used cX3_used 2 (some .int) 1 := ⟨mw_im_X3_used, mw_se_X3_X3_used, mw_in_X3, mw_co_X3_used, by decide +kernel, by decide +kernel, by decide +kernel⟩
theorem pv_X3_usedBy : mt_pV yX3_usedBy cX3_usedBy 2 (some .int) 1 := ⟨mw_im_X3_usedBy, mw_se_X3_X3_usedBy, mw_in_X3, mw_co_X3_usedBy, by decide +kernel, by decide +kernel, by decide +kernel⟩
theorem pv_X3_usedByLayers : mt_pV yX3_usedByLayers cX3_usedByLayers 5 (some .int) 1 := ⟨mw_im_X3_usedByLayers, mw_se_X3_X3_usedByLayers, mw_in_X3, mw_co_X3_usedByLayers, by decide +kernel, by decide +kernel, by decide +kernel⟩
theorem pv_X3_whiteouts : mt_pV yX3_whiteouts cX3_whiteouts 2 (some .int) 1 := ⟨mw_im_X3_whiteouts, mw_se_X3_X3_whiteouts, mw_in_X3, mw_co_X3_whiteouts, by decide +kernel, by decide +kernel, by decide +kernel⟩
theorem pv_X3_write : mt_pV yX3_write cX3_write 7 (some .int) 3 := ⟨mw_im_X3_write, mw_se_X3_X3_write, mw_in_X3, mw_co_X3_write, by decide +kernel, by decide +kernel, by decide +kernel⟩
theorem pv_X4_addLayer : mt_pV yX4_addLayer cX4_addLayer 1 (some .int) 0 := ⟨mw_im_X4_addLayer, mw_se_X4_X4_addLayer, mw_in_X4, mw_co_X4_addLayer, by decide +kernel, by decide +kernel, by decide +kernel⟩
theorem pv_X4_asks : mt_pV yX4_asks cX4_asks 2 (some .boolean) 1 := ⟨mw_im_X4_asks, mw_se_X4_X4_asks, mw_in_X4, mw_co_X4_asks, by decide +kernel, by decide +kernel, by decide +kernel⟩
theorem pv_X4_asksShown : mt_pV yX4_asksShown cX4_asksShown 2 (some .boolean) 1 := ⟨mw_im_X4_asksShown, mw_se_X4_X4_asksShown, mw_in_X4, mw_co_X4_asksShown, by decide +kernel, by decide +kernel, by decide +kernel⟩
theorem pv_X4_backUp : mt_pV yX4_backUp cX4_backUp 3 (some .int) 1 := ⟨mw_im_X4_backUp, mw_se_X4_X4_backUp, mw_in_X4, mw_co_X4_backUp, by decide +kernel, by decide +kernel, by decide +kernel⟩
theorem ps_X4_begins : mt_pS yX4_begins cX4_begins 3 (some .boolean) 2 := ⟨mw_st_X4_begins, mw_in_X4, mw_co_X4_begins, by decide +kernel, by decide +kernel, by decide +kernel⟩
theorem pv_X4_bytes : mt_pV yX4_bytes cX4_bytes 5 (some .int) 1 := ⟨mw_im_X4_bytes, mw_se_X4_X4_bytes, mw_in_X4, mw_co_X4_bytes, by decide +kernel, by decide +kernel, by decide +kernel⟩
theorem pv_X4_bytesOfAll : mt_pV yX4_bytesOfAll cX4_bytesOfAll 1 (some .int) 0 := ⟨mw_im_X4_bytesOfAll, mw_se_X4_X4_bytesOfAll, mw_in_X4, mw_co_X4_bytesOfAll, by decide +kernel, by decide +kernel, by decide +kernel⟩
theorem pv_X4_bytesShown : mt_pV yX4_bytesShown cX4_bytesShown 5 (some .int) 0 := ⟨mw_im_X4_bytesShown, mw_se_X4_X4_bytesShown, mw_in_X4, mw_co_X4_bytesShown, by decide +kernel, by decide +kernel, by decide +kernel⟩
theorem pv_X4_canWrite : mt_pV yX4_canWrite cX4_canWrite 3 (some .boolean) 1 := ⟨mw_im_X4_canWrite, mw_se_X4_X4_canWrite, mw_in_X4, mw_co_X4_canWrite, by decide +kernel, by decide +kernel, by decide +kernel⟩
theorem pv_X4_copies : mt_pV yX4_copies cX4_copies 1 (some .int) 0 := ⟨mw_im_X4_copies, mw_se_X4_X4_copies, mw_in_X4, mw_co_X4_copies, by decide +kernel, by decide +kernel, by decide +kernel⟩
theorem pv_X4_count : mt_pV yX4_count cX4_count 5 (some .int) 2 := ⟨mw_im_X4_count, mw_se_X4_X4_count, mw_in_X4, mw_co_X4_count, by decide +kernel, by decide +kernel, by decide +kernel⟩
theorem pv_X4_covered : mt_pV yX4_covered cX4_covered 5 (some .int) 0 := ⟨mw_im_X4_covered, mw_se_X4_X4_covered, mw_in_X4, mw_co_X4_covered, by decide +kernel, by decide +kernel, by decide +kernel⟩
theorem pv_X4_differences : mt_pV yX4_differences cX4_differences 4 (some .int) 1 := ⟨mw_im_X4_differences, mw_se_X4_X4_differences, mw_in_X4, mw_co_X4_differences, by decide +kernel, by decide +kernel, by decide +kernel⟩
theorem ps_X4_digits : mt_pS yX4_digits cX4_digits 3 (some .int) 1 := ⟨mw_st_X4_digits, mw_in_X4, mw_co_X4_digits, by decide +kernel, by decide +kernel, by decide +kernel⟩
theorem pv_X4_end : mt_pV yX4_end cX4_end 6 (some .int) 1 := ⟨mw_im_X4_end, mw_se_X4_X4_end, mw_in_X4, mw_co_X4_end, by decide +kernel, by decide +kernel, by decide +kernel⟩
theorem pv_X4_hidden : mt_pV yX4_hidden cX4_hidden 1 (some .int) 0 := ⟨mw_im_X4_hidden, mw_se_X4_X4_hidden, mw_in_X4, mw_co_X4_hidden, by decide +kernel, by decide +kernel, by decide +kernel⟩
theorem ps_X4_in : mt_pS yX4_in cX4_in 6 (some .boolean) 3 := ⟨mw_st_X4_in, mw_in_X4, mw_co_X4_in, by decide +kernel, by decide +kernel, by decide +kernel⟩
theorem pv_X4_isBackup : mt_pV yX4_isBackup cX4_isBackup 2 (some .boolean) 1 := ⟨mw_im_X4_isBackup, mw_se_X4_X4_isBackup, mw_in_X4, mw_co_X4_isBackup, by decide +kernel, by decide +kernel, by decide +kernel⟩
theorem pv_X4_isLayer : mt_pV yX4_isLayer cX4_isLayer 2 (some .boolean) 1 := ⟨mw_im_X4_isLayer, mw_se_X4_X4_isLayer, mw_in_X4, mw_co_X4_isLayer, by decide +kernel, by decide +kernel, by decide +kernel⟩
theorem pv_X4_isMount : mt_pV yX4_isMount cX4_isMount 2 (some .boolean) 1 := ⟨mw_im_X4_isMount, mw_se_X4_X4_isMount, mw_in_X4, mw_co_X4_isMount, by decide +kernel, by decide +kernel, by decide +kernel⟩
theorem ps_X4_isOwner : mt_pS yX4_isOwner cX4_isOwner 1 (some .boolean) 1 := ⟨mw_st_X4_isOwner, mw_in_X4, mw_co_X4_isOwner, by decide +kernel, by decide +kernel, by decide +kernel⟩
theorem ps_X4_isPath : mt_pS yX4_isPath cX4_isPath 3 (some .boolean) 1 := ⟨mw_st_X4_isPath, mw_in_X4, mw_co_X4_isPath, by decide +kernel, by decide +kernel, by decide +kernel⟩
theorem pv_X4_isUpper : mt_pV yX4_isUpper cX4_isUpper 4 (some .boolean) 1 := ⟨mw_im_X4_isUpper, mw_se_X4_X4_isUpper, mw_in_X4, mw_co_X4_isUpper, by decide +kernel, by decide +kernel, by decide +kernel⟩
theorem pv_X4_isUsed : mt_pV yX4_isUsed cX4_isUsed 4 (some .boolean) 1 := ⟨mw_im_X4_isUsed, mw_se_X4_X4_isUsed, mw_in_X4, mw_co_X4_isUsed, by decide +kernel, by decide +kernel, by decide +kernel⟩
theorem pv_X4_layerOf : mt_pV yX4_layerOf cX4_layerOf 2 (some .int) 1 := ⟨mw_im_X4_layerOf, mw_se_X4_X4_layerOf, mw_in_X4, mw_co_X4_layerOf, by decide +kernel, by decide +kernel, by decide +kernel⟩
theorem pv_X4_link : mt_pV yX4_link cX4_link 6 (some .int) 3 := ⟨mw_im_X4_link, mw_se_X4_X4_link, mw_in_X4, mw_co_X4_link, by decide +kernel, by decide +kernel, by decide +kernel⟩
theorem pv_X4_meanSize : mt_pV yX4_meanSize cX4_meanSize 4 (some .double) 1 := ⟨mw_im_X4_meanSize, mw_se_X4_X4_meanSize, mw_in_X4, mw_co_X4_meanSize, by decide +kernel, by decide +kernel, by decide +kernel⟩
theorem pv_X4_mount : mt_pV yX4_mount cX4_mount 5 (some .int) 3 := ⟨mw_im_X4_mount, mw_se_X4_X4_mount, mw_in_X4, mw_co_X4_mount, by decide +kernel, by decide +kernel, by decide +kernel⟩
theorem pv_X4_move : mt_pV yX4_move cX4_move 4 (some .int) 2 := ⟨mw_im_X4_move, mw_se_X4_X4_move, mw_in_X4, mw_co_X4_move, by decide +kernel, by decide +kernel, by decide +kernel⟩
theorem pv_X4_nowAt : mt_pV yX4_nowAt cX4_nowAt 4 (some .int) 2 := ⟨mw_im_X4_nowAt, mw_se_X4_X4_nowAt, mw_in_X4, mw_co_X4_nowAt, by decide +kernel, by decide +kernel, by decide +kernel⟩
theorem pv_X4_ownerOf : mt_pV yX4_ownerOf cX4_ownerOf 2 (some .int) 1 := ⟨mw_im_X4_ownerOf, mw_se_X4_X4_ownerOf, mw_in_X4, mw_co_X4_ownerOf, by decide +kernel, by decide +kernel, by decide +kernel⟩
theorem ps_X4_pathOf : mt_pS yX4_pathOf cX4_pathOf 5 (some .int) 1 := ⟨mw_st_X4_pathOf, mw_in_X4, mw_co_X4_pathOf, by decide +kernel, by decide +kernel, by decide +kernel⟩
theorem ps_X4_power : mt_pS yX4_power cX4_power 4 (some .int) 2 := ⟨mw_st_X4_power, mw_in_X4, mw_co_X4_power, by decide +kernel, by decide +kernel, by decide +kernel⟩
theorem pv_X4_puts : mt_pV yX4_puts cX4_puts 7 none 4 := ⟨mw_im_X4_puts, mw_se_X4_X4_puts, mw_in_X4, mw_co_X4_puts, by decide +kernel, by decide +kernel, by decide +kernel⟩
theorem ps_X4_rank : mt_pS yX4_rank cX4_rank 4 (some .int) 1 := ⟨mw_st_X4_rank, mw_in_X4, mw_co_X4_rank, by decide +kernel, by decide +kernel, by decide +kernel⟩
theorem pv_X4_remove : mt_pV yX4_remove cX4_remove 7 (some .int) 1 := ⟨mw_im_X4_remove, mw_se_X4_X4_remove, mw_in_X4, mw_co_X4_remove, by decide +kernel, by decide +kernel, by decide +kernel⟩
theorem ps_X4_rest : mt_pS yX4_rest cX4_rest 2 (some .int) 2 := ⟨mw_st_X4_rest, mw_in_X4, mw_co_X4_rest, by decide +kernel, by decide +kernel, by decide +kernel⟩
theorem pv_X4_served : mt_pV yX4_served cX4_served 2 (some .int) 1 := ⟨mw_im_X4_served, mw_se_X4_X4_served, mw_in_X4, mw_co_X4_served, by decide +kernel, by decide +kernel, by decide +kernel⟩
theorem pv_X4_servedBy : mt_pV yX4_servedBy cX4_servedBy 4 (some .int) 1 := ⟨mw_im_X4_servedBy, mw_se_X4_X4_servedBy, mw_in_X4, mw_co_X4_servedBy, by decide +kernel, by decide +kernel, by decide +kernel⟩
theorem pv_X4_setCrossing : mt_pV yX4_setCrossing cX4_setCrossing 4 (some .boolean) 2 := ⟨mw_im_X4_setCrossing, mw_se_X4_X4_setCrossing, mw_in_X4, mw_co_X4_setCrossing, by decide +kernel, by decide +kernel, by decide +kernel⟩
theorem pv_X4_setQuota : mt_pV yX4_setQuota cX4_setQuota 4 (some .int) 2 := ⟨mw_im_X4_setQuota, mw_se_X4_X4_setQuota, mw_in_X4, mw_co_X4_setQuota, by decide +kernel, by decide +kernel, by decide +kernel⟩
theorem pv_X4_shown : mt_pV yX4_shown cX4_shown 6 (some .int) 1 := ⟨mw_im_X4_shown, mw_se_X4_X4_shown, mw_in_X4, mw_co_X4_shown, by decide +kernel, by decide +kernel, by decide +kernel⟩
theorem pv_X4_shownShare : mt_pV yX4_shownShare cX4_shownShare 2 (some .float) 0 := ⟨mw_im_X4_shownShare, mw_se_X4_X4_shownShare, mw_in_X4, mw_co_X4_shownShare, by decide +kernel, by decide +kernel, by decide +kernel⟩
theorem pv_X4_shows : mt_pV yX4_shows cX4_shows 3 (some .char) 1 := ⟨mw_im_X4_shows, mw_se_X4_X4_shows, mw_in_X4, mw_co_X4_shows, by decide +kernel, by decide +kernel, by decide +kernel⟩
theorem pv_X4_size : mt_pV yX4_size cX4_size 4 (some .int) 1 := ⟨mw_im_X4_size, mw_se_X4_X4_size, mw_in_X4, mw_co_X4_size, by decide +kernel, by decide +kernel, by decide +kernel⟩
theorem pv_X4_sizeByWalking : mt_pV yX4_sizeByWalking cX4_sizeByWalking 3 (some .int) 1 := ⟨mw_im_X4_sizeByWalking, mw_se_X4_X4_sizeByWalking, mw_in_X4, mw_co_X4_sizeByWalking, by decide +kernel, by decide +kernel, by decide +kernel⟩
theorem pv_X4_target : mt_pV yX4_target cX4_target 3 (some .int) 1 := ⟨mw_im_X4_target, mw_se_X4_X4_target, mw_in_X4, mw_co_X4_target, by decide +kernel, by decide +kernel, by decide +kernel⟩
theorem pv_X4_thrown : mt_pV yX4_thrown cX4_thrown 1 (some .int) 0 := ⟨mw_im_X4_thrown, mw_se_X4_X4_thrown, mw_in_X4, mw_co_X4_thrown, by decide +kernel, by decide +kernel, by decide +kernel⟩
theorem pv_X4_unmount : mt_pV yX4_unmount cX4_unmount 4 (some .int) 1 := ⟨mw_im_X4_unmount, mw_se_X4_X4_unmount, mw_in_X4, mw_co_X4_unmount, by decide +kernel, by decide +kernel, by decide +kernel⟩
theorem pv_X4_used : mt_pV yX4_used cX4_used 5 (some .int) 2 := ⟨mw_im_X4_used, mw_se_X4_X4_used, mw_in_X4, mw_co_X4_used, by decide +kernel, by decide +kernel, by decide +kernel⟩
theorem pv_X4_usedByLayers : mt_pV yX4_usedByLayers cX4_usedByLayers 2 (some .int) 1 := ⟨mw_im_X4_usedByLayers, mw_se_X4_X4_usedByLayers, mw_in_X4, mw_co_X4_usedByLayers, by decide +kernel, by decide +kernel, by decide +kernel⟩
theorem pv_X4_used_ : mt_pV yX4_used_ cX4_used_ 2 (some .int) 1 := ⟨mw_im_X4_used_, mw_se_X4_X4_used_, mw_in_X4, mw_co_X4_used_, by decide +kernel, by decide +kernel, by decide +kernel⟩
theorem pv_X4_whiteouts : mt_pV yX4_whiteouts cX4_whiteouts 2 (some .int) 1 := ⟨mw_im_X4_whiteouts, mw_se_X4_X4_whiteouts, mw_in_X4, mw_co_X4_whiteouts, by decide +kernel, by decide +kernel, by decide +kernel⟩
theorem pv_X4_write : mt_pV yX4_write cX4_write 5 (some .int) 3 := ⟨mw_im_X4_write, mw_se_X4_X4_write, mw_in_X4, mw_co_X4_write, by decide +kernel, by decide +kernel, by decide +kernel⟩
end
section
def c_X3_isPlace (x : Int32) : Int32 := if x < 0 then 0 else (if 341 ≤ x then 0 else 1)
set_option maxRecDepth 100000 in
set_option maxHeartbeats 4000000 in
theorem k_X3_isPlace (l : Launch) (hlt : l.stackTraces = false) (g : mt_G) (z : Nat) (ad : Nat → Nat) (lc mc bc : Nat) (N G : Nat → Nat → Int32) (o : Nat → Int64) (d : Nat → UInt64) (h6 : lc ≤ 6) (h8 : mc ≤ 8) (hb6 : bc ≤ 6) (x : Int32)  : mt_K l g z yX3_isPlace cX3_isPlace 1 (some .boolean) 0 0 0 0 [.int x] (mt_wc g ad lc mc bc N G o d) ad (.inr (some (.int (c_X3_isPlace x)))) (mt_wc g ad lc mc bc N G o d) ad := by
  refine mt_ofW (by decide +kernel) (Nat.le_of_ble_eq_true rfl) ?_
  intro p e s m args below meth c S hr hk hnm hout hC hW hS ls hl
  have hx := S.1
  have hb := S.2.1
  have hl : lv_has ls 1 [(0, .int (x))] := hl
  refine lv_iload_n hx hb dX3_isPlace_0 rfl (lv_at hl 0 rfl) ?_
  refine lv_if_lt (tgt := 15) hx hb dX3_isPlace_1 (by decide) (fun c_1 => ?_) (fun c_1 => ?_)
  · refine lv_iconst (v := 0) hx hb dX3_isPlace_15 (by decide) ?_
    exact mt_rz S hr hk rfl hW hS (by rw [c_X3_isPlace, if_pos c_1]) (Nat.le_of_ble_eq_true rfl) (Nat.le_of_ble_eq_true rfl) dX3_isPlace_16
  · refine lv_iload_n hx hb dX3_isPlace_4 rfl (lv_at hl 0 rfl) ?_
    refine lv_sipush (v := 341) hx hb dX3_isPlace_5 (by decide) ?_
    refine lv_icmp_ge (tgt := 15) hx hb dX3_isPlace_8 (by decide) (fun c_2 => ?_) (fun c_2 => ?_)
    · refine lv_iconst (v := 0) hx hb dX3_isPlace_15 (by decide) ?_
      exact mt_rz S hr hk rfl hW hS (by rw [c_X3_isPlace, if_neg c_1, if_pos c_2]) (Nat.le_of_ble_eq_true rfl) (Nat.le_of_ble_eq_true rfl) dX3_isPlace_16
    · refine lv_iconst (v := 1) hx hb dX3_isPlace_11 (by decide) ?_
      refine lv_goto (tgt := 16) hx hb dX3_isPlace_12 (by decide) ?_
      exact mt_rz S hr hk rfl hW hS (by rw [c_X3_isPlace, if_neg c_1, if_neg c_2]) (Nat.le_of_ble_eq_true rfl) (Nat.le_of_ble_eq_true rfl) dX3_isPlace_16
def c_X3_isOwner (x : Int32) : Int32 := if x < 0 then 0 else (if 4 ≤ x then 0 else 1)
set_option maxRecDepth 100000 in
set_option maxHeartbeats 4000000 in
theorem k_X3_isOwner (l : Launch) (hlt : l.stackTraces = false) (g : mt_G) (z : Nat) (ad : Nat → Nat) (lc mc bc : Nat) (N G : Nat → Nat → Int32) (o : Nat → Int64) (d : Nat → UInt64) (h6 : lc ≤ 6) (h8 : mc ≤ 8) (hb6 : bc ≤ 6) (x : Int32)  : mt_K l g z yX3_isOwner cX3_isOwner 1 (some .boolean) 0 0 0 0 [.int x] (mt_wc g ad lc mc bc N G o d) ad (.inr (some (.int (c_X3_isOwner x)))) (mt_wc g ad lc mc bc N G o d) ad := by
  refine mt_ofW (by decide +kernel) (Nat.le_of_ble_eq_true rfl) ?_
  intro p e s m args below meth c S hr hk hnm hout hC hW hS ls hl
  have hx := S.1
  have hb := S.2.1
  have hl : lv_has ls 1 [(0, .int (x))] := hl
  refine lv_iload_n hx hb dX3_isOwner_0 rfl (lv_at hl 0 rfl) ?_
  refine lv_if_lt (tgt := 13) hx hb dX3_isOwner_1 (by decide) (fun c_1 => ?_) (fun c_1 => ?_)
  · refine lv_iconst (v := 0) hx hb dX3_isOwner_13 (by decide) ?_
    exact mt_rz S hr hk rfl hW hS (by rw [c_X3_isOwner, if_pos c_1]) (Nat.le_of_ble_eq_true rfl) (Nat.le_of_ble_eq_true rfl) dX3_isOwner_14
  · refine lv_iload_n hx hb dX3_isOwner_4 rfl (lv_at hl 0 rfl) ?_
    refine lv_iconst (v := 4) hx hb dX3_isOwner_5 (by decide) ?_
    refine lv_icmp_ge (tgt := 13) hx hb dX3_isOwner_6 (by decide) (fun c_2 => ?_) (fun c_2 => ?_)
    · refine lv_iconst (v := 0) hx hb dX3_isOwner_13 (by decide) ?_
      exact mt_rz S hr hk rfl hW hS (by rw [c_X3_isOwner, if_neg c_1, if_pos c_2]) (Nat.le_of_ble_eq_true rfl) (Nat.le_of_ble_eq_true rfl) dX3_isOwner_14
    · refine lv_iconst (v := 1) hx hb dX3_isOwner_9 (by decide) ?_
      refine lv_goto (tgt := 14) hx hb dX3_isOwner_10 (by decide) ?_
      exact mt_rz S hr hk rfl hW hS (by rw [c_X3_isOwner, if_neg c_1, if_neg c_2]) (Nat.le_of_ble_eq_true rfl) (Nat.le_of_ble_eq_true rfl) dX3_isOwner_14
def c_X3_isThing (x : Int32) : Int32 := if x = 1 then 1 else (if x = 2 then 1 else 0)
set_option maxRecDepth 100000 in
set_option maxHeartbeats 4000000 in
theorem k_X3_isThing (l : Launch) (hlt : l.stackTraces = false) (g : mt_G) (z : Nat) (ad : Nat → Nat) (lc mc bc : Nat) (N G : Nat → Nat → Int32) (o : Nat → Int64) (d : Nat → UInt64) (h6 : lc ≤ 6) (h8 : mc ≤ 8) (hb6 : bc ≤ 6) (x : Int32)  : mt_K l g z yX3_isThing cX3_isThing 1 (some .boolean) 0 0 0 0 [.int x] (mt_wc g ad lc mc bc N G o d) ad (.inr (some (.int (c_X3_isThing x)))) (mt_wc g ad lc mc bc N G o d) ad := by
  refine mt_ofW (by decide +kernel) (Nat.le_of_ble_eq_true rfl) ?_
  intro p e s m args below meth c S hr hk hnm hout hC hW hS ls hl
  have hx := S.1
  have hb := S.2.1
  have hl : lv_has ls 1 [(0, .int (x))] := hl
  refine lv_iload_n hx hb dX3_isThing_0 rfl (lv_at hl 0 rfl) ?_
  refine lv_iconst (v := 1) hx hb dX3_isThing_1 (by decide) ?_
  refine lv_icmp_eq (tgt := 10) hx hb dX3_isThing_2 (by decide) (fun c_1 => ?_) (fun c_1 => ?_)
  · refine lv_iconst (v := 1) hx hb dX3_isThing_10 (by decide) ?_
    refine lv_goto (tgt := 15) hx hb dX3_isThing_11 (by decide) ?_
    exact mt_rz S hr hk rfl hW hS (by rw [c_X3_isThing, if_pos c_1]) (Nat.le_of_ble_eq_true rfl) (Nat.le_of_ble_eq_true rfl) dX3_isThing_15
  · refine lv_iload_n hx hb dX3_isThing_5 rfl (lv_at hl 0 rfl) ?_
    refine lv_iconst (v := 2) hx hb dX3_isThing_6 (by decide) ?_
    refine lv_icmp_ne (tgt := 14) hx hb dX3_isThing_7 (by decide) (fun c_2 => ?_) (fun c_2 => ?_)
    · refine lv_iconst (v := 0) hx hb dX3_isThing_14 (by decide) ?_
      exact mt_rz S hr hk rfl hW hS (by rw [c_X3_isThing, if_neg c_1, if_neg c_2]) (Nat.le_of_ble_eq_true rfl) (Nat.le_of_ble_eq_true rfl) dX3_isThing_15
    · refine lv_iconst (v := 1) hx hb dX3_isThing_10 (by decide) ?_
      refine lv_goto (tgt := 15) hx hb dX3_isThing_11 (by decide) ?_
      exact mt_rz S hr hk rfl hW hS (by rw [c_X3_isThing, if_neg c_1, if_pos c_2]) (Nat.le_of_ble_eq_true rfl) (Nat.le_of_ble_eq_true rfl) dX3_isThing_15
theorem c_isPlace_in {x : Int32} (h : ¬ c_X3_isPlace x = 0) : vp_in x 341 := by
  unfold c_X3_isPlace at h
  by_cases h1 : x < 0
  · rw [if_pos h1] at h; exact absurd rfl h
  · rw [if_neg h1] at h
    by_cases h2 : 341 ≤ x
    · rw [if_pos h2] at h; exact absurd rfl h
    · exact vin (n := 341) h1 h2
theorem c_isOwner_in {x : Int32} (h : ¬ c_X3_isOwner x = 0) : vp_in x 4 := by
  unfold c_X3_isOwner at h
  by_cases h1 : x < 0
  · rw [if_pos h1] at h; exact absurd rfl h
  · rw [if_neg h1] at h
    by_cases h2 : 4 ≤ x
    · rw [if_pos h2] at h; exact absurd rfl h
    · exact vin (n := 4) h1 h2
def c_X1_kindAt (lc mc bc : Nat) (N G : Nat → Nat → Int32) (i : Nat) (x : Int32) : Int32 := if x < 0 then 0 else (if 341 ≤ x then 0 else (G (110 + i) x.toNatClampNeg))
set_option maxRecDepth 100000 in
set_option maxHeartbeats 4000000 in
theorem k_X1_kindAt (l : Launch) (hlt : l.stackTraces = false) (g : mt_G) (z : Nat) (ad : Nat → Nat) (lc mc bc : Nat) (N G : Nat → Nat → Int32) (o : Nat → Int64) (d : Nat → UInt64) (h6 : lc ≤ 6) (h8 : mc ≤ 8) (hb6 : bc ≤ 6) (i : Nat) (x : Int32) (hi : i < lc) : mt_K l g z yX1_kindAt cX1_kindAt 2 (some .int) 0 0 0 0 [.ref (ad (100 + i)), .int x] (mt_wc g ad lc mc bc N G o d) ad (.inr (some (.int (c_X1_kindAt lc mc bc N G i x)))) (mt_wc g ad lc mc bc N G o d) ad := by
  refine mt_ofW (by decide +kernel) (Nat.le_of_ble_eq_true rfl) ?_
  intro p e s m args below meth c S hr hk hnm hout hC hW hS ls hl
  have hx := S.1
  have hb := S.2.1
  have hl : lv_has ls 2 [(0, .ref (ad (100 + i))), (1, .int (x))] := hl
  refine lv_iload_n hx hb dX1_kindAt_0 rfl (lv_at hl 1 rfl) ?_
  refine lv_if_lt (tgt := 22) hx hb dX1_kindAt_1 (by decide) (fun c_1 => ?_) (fun c_1 => ?_)
  · refine lv_iconst (v := 0) hx hb dX1_kindAt_22 (by decide) ?_
    exact mt_ri S hr hk hW hS (by rw [c_X1_kindAt, if_pos c_1]) (Nat.le_of_ble_eq_true rfl) (Nat.le_of_ble_eq_true rfl) dX1_kindAt_23
  · refine lv_iload_n hx hb dX1_kindAt_4 rfl (lv_at hl 1 rfl) ?_
    refine lv_aload_n hx hb dX1_kindAt_5 rfl (lv_at hl 0 rfl) ?_
    refine mt_get S iw_X1 hC hW (wc_lay h6 hi) rfl 0 (by decide) mw_fl_X1_9 rfl rfl dX1_kindAt_6 ?_
    refine wk_alen (t := 0) S hC hW (ar_k h6 hi) rfl dX1_kindAt_9 ?_
    refine mt_te (y := 341) rfl ?_
    refine lv_icmp_ge (tgt := 22) hx hb dX1_kindAt_10 (by decide) (fun c_2 => ?_) (fun c_2 => ?_)
    · refine lv_iconst (v := 0) hx hb dX1_kindAt_22 (by decide) ?_
      exact mt_ri S hr hk hW hS (by rw [c_X1_kindAt, if_neg c_1, if_pos c_2]) (Nat.le_of_ble_eq_true rfl) (Nat.le_of_ble_eq_true rfl) dX1_kindAt_23
    · refine lv_aload_n hx hb dX1_kindAt_13 rfl (lv_at hl 0 rfl) ?_
      refine mt_get S iw_X1 hC hW (wc_lay h6 hi) rfl 0 (by decide) mw_fl_X1_9 rfl rfl dX1_kindAt_14 ?_
      refine lv_iload_n hx hb dX1_kindAt_17 rfl (lv_at hl 1 rfl) ?_
      refine wk_iald S hC hW (ar_k h6 hi) (vin (n := 341) c_1 c_2) dX1_kindAt_18 ?_
      refine lv_goto (tgt := 23) hx hb dX1_kindAt_19 (by decide) ?_
      exact mt_ri S hr hk hW hS (by rw [c_X1_kindAt, if_neg c_1, if_neg c_2]) (Nat.le_of_ble_eq_true rfl) (Nat.le_of_ble_eq_true rfl) dX1_kindAt_23
def c_X1_ownerAt (lc mc bc : Nat) (N G : Nat → Nat → Int32) (i : Nat) (x : Int32) : Int32 := if x < 0 then 0 else (if 341 ≤ x then 0 else (G (120 + i) x.toNatClampNeg))
set_option maxRecDepth 100000 in
set_option maxHeartbeats 4000000 in
theorem k_X1_ownerAt (l : Launch) (hlt : l.stackTraces = false) (g : mt_G) (z : Nat) (ad : Nat → Nat) (lc mc bc : Nat) (N G : Nat → Nat → Int32) (o : Nat → Int64) (d : Nat → UInt64) (h6 : lc ≤ 6) (h8 : mc ≤ 8) (hb6 : bc ≤ 6) (i : Nat) (x : Int32) (hi : i < lc) : mt_K l g z yX1_ownerAt cX1_ownerAt 2 (some .int) 0 0 0 0 [.ref (ad (100 + i)), .int x] (mt_wc g ad lc mc bc N G o d) ad (.inr (some (.int (c_X1_ownerAt lc mc bc N G i x)))) (mt_wc g ad lc mc bc N G o d) ad := by
  refine mt_ofW (by decide +kernel) (Nat.le_of_ble_eq_true rfl) ?_
  intro p e s m args below meth c S hr hk hnm hout hC hW hS ls hl
  have hx := S.1
  have hb := S.2.1
  have hl : lv_has ls 2 [(0, .ref (ad (100 + i))), (1, .int (x))] := hl
  refine lv_iload_n hx hb dX1_ownerAt_0 rfl (lv_at hl 1 rfl) ?_
  refine lv_if_lt (tgt := 22) hx hb dX1_ownerAt_1 (by decide) (fun c_1 => ?_) (fun c_1 => ?_)
  · refine lv_iconst (v := 0) hx hb dX1_ownerAt_22 (by decide) ?_
    exact mt_ri S hr hk hW hS (by rw [c_X1_ownerAt, if_pos c_1]) (Nat.le_of_ble_eq_true rfl) (Nat.le_of_ble_eq_true rfl) dX1_ownerAt_23
  · refine lv_iload_n hx hb dX1_ownerAt_4 rfl (lv_at hl 1 rfl) ?_
    refine lv_aload_n hx hb dX1_ownerAt_5 rfl (lv_at hl 0 rfl) ?_
    refine mt_get S iw_X1 hC hW (wc_lay h6 hi) rfl 1 (by decide) mw_fl_X1_15 rfl rfl dX1_ownerAt_6 ?_
    refine wk_alen (t := 0) S hC hW (ar_o h6 hi) rfl dX1_ownerAt_9 ?_
    refine mt_te (y := 341) rfl ?_
    refine lv_icmp_ge (tgt := 22) hx hb dX1_ownerAt_10 (by decide) (fun c_2 => ?_) (fun c_2 => ?_)
    · refine lv_iconst (v := 0) hx hb dX1_ownerAt_22 (by decide) ?_
      exact mt_ri S hr hk hW hS (by rw [c_X1_ownerAt, if_neg c_1, if_pos c_2]) (Nat.le_of_ble_eq_true rfl) (Nat.le_of_ble_eq_true rfl) dX1_ownerAt_23
    · refine lv_aload_n hx hb dX1_ownerAt_13 rfl (lv_at hl 0 rfl) ?_
      refine mt_get S iw_X1 hC hW (wc_lay h6 hi) rfl 1 (by decide) mw_fl_X1_15 rfl rfl dX1_ownerAt_14 ?_
      refine lv_iload_n hx hb dX1_ownerAt_17 rfl (lv_at hl 1 rfl) ?_
      refine wk_iald S hC hW (ar_o h6 hi) (vin (n := 341) c_1 c_2) dX1_ownerAt_18 ?_
      refine lv_goto (tgt := 23) hx hb dX1_ownerAt_19 (by decide) ?_
      exact mt_ri S hr hk hW hS (by rw [c_X1_ownerAt, if_neg c_1, if_neg c_2]) (Nat.le_of_ble_eq_true rfl) (Nat.le_of_ble_eq_true rfl) dX1_ownerAt_23
def c_X1_valueAt (lc mc bc : Nat) (N G : Nat → Nat → Int32) (i : Nat) (x : Int32) : Int32 := if x < 0 then 0 else (if 341 ≤ x then 0 else (G (130 + i) x.toNatClampNeg))
set_option maxRecDepth 100000 in
set_option maxHeartbeats 4000000 in
theorem k_X1_valueAt (l : Launch) (hlt : l.stackTraces = false) (g : mt_G) (z : Nat) (ad : Nat → Nat) (lc mc bc : Nat) (N G : Nat → Nat → Int32) (o : Nat → Int64) (d : Nat → UInt64) (h6 : lc ≤ 6) (h8 : mc ≤ 8) (hb6 : bc ≤ 6) (i : Nat) (x : Int32) (hi : i < lc) : mt_K l g z yX1_valueAt cX1_valueAt 2 (some .int) 0 0 0 0 [.ref (ad (100 + i)), .int x] (mt_wc g ad lc mc bc N G o d) ad (.inr (some (.int (c_X1_valueAt lc mc bc N G i x)))) (mt_wc g ad lc mc bc N G o d) ad := by
  refine mt_ofW (by decide +kernel) (Nat.le_of_ble_eq_true rfl) ?_
  intro p e s m args below meth c S hr hk hnm hout hC hW hS ls hl
  have hx := S.1
  have hb := S.2.1
  have hl : lv_has ls 2 [(0, .ref (ad (100 + i))), (1, .int (x))] := hl
  refine lv_iload_n hx hb dX1_valueAt_0 rfl (lv_at hl 1 rfl) ?_
  refine lv_if_lt (tgt := 22) hx hb dX1_valueAt_1 (by decide) (fun c_1 => ?_) (fun c_1 => ?_)
  · refine lv_iconst (v := 0) hx hb dX1_valueAt_22 (by decide) ?_
    exact mt_ri S hr hk hW hS (by rw [c_X1_valueAt, if_pos c_1]) (Nat.le_of_ble_eq_true rfl) (Nat.le_of_ble_eq_true rfl) dX1_valueAt_23
  · refine lv_iload_n hx hb dX1_valueAt_4 rfl (lv_at hl 1 rfl) ?_
    refine lv_aload_n hx hb dX1_valueAt_5 rfl (lv_at hl 0 rfl) ?_
    refine mt_get S iw_X1 hC hW (wc_lay h6 hi) rfl 2 (by decide) mw_fl_X1_18 rfl rfl dX1_valueAt_6 ?_
    refine wk_alen (t := 0) S hC hW (ar_v h6 hi) rfl dX1_valueAt_9 ?_
    refine mt_te (y := 341) rfl ?_
    refine lv_icmp_ge (tgt := 22) hx hb dX1_valueAt_10 (by decide) (fun c_2 => ?_) (fun c_2 => ?_)
    · refine lv_iconst (v := 0) hx hb dX1_valueAt_22 (by decide) ?_
      exact mt_ri S hr hk hW hS (by rw [c_X1_valueAt, if_neg c_1, if_pos c_2]) (Nat.le_of_ble_eq_true rfl) (Nat.le_of_ble_eq_true rfl) dX1_valueAt_23
    · refine lv_aload_n hx hb dX1_valueAt_13 rfl (lv_at hl 0 rfl) ?_
      refine mt_get S iw_X1 hC hW (wc_lay h6 hi) rfl 2 (by decide) mw_fl_X1_18 rfl rfl dX1_valueAt_14 ?_
      refine lv_iload_n hx hb dX1_valueAt_17 rfl (lv_at hl 1 rfl) ?_
      refine wk_iald S hC hW (ar_v h6 hi) (vin (n := 341) c_1 c_2) dX1_valueAt_18 ?_
      refine lv_goto (tgt := 23) hx hb dX1_valueAt_19 (by decide) ?_
      exact mt_ri S hr hk hW hS (by rw [c_X1_valueAt, if_neg c_1, if_neg c_2]) (Nat.le_of_ble_eq_true rfl) (Nat.le_of_ble_eq_true rfl) dX1_valueAt_23
def c_X1_fileSizeAt (lc mc bc : Nat) (N G : Nat → Nat → Int32) (i : Nat) (x : Int32) : Int32 := if (c_X1_kindAt lc mc bc N G i x) = 1 then (c_X1_valueAt lc mc bc N G i x) else (-1)
set_option maxRecDepth 100000 in
set_option maxHeartbeats 4000000 in
theorem k_X1_fileSizeAt (l : Launch) (hlt : l.stackTraces = false) (g : mt_G) (z : Nat) (ad : Nat → Nat) (lc mc bc : Nat) (N G : Nat → Nat → Int32) (o : Nat → Int64) (d : Nat → UInt64) (h6 : lc ≤ 6) (h8 : mc ≤ 8) (hb6 : bc ≤ 6) (i : Nat) (x : Int32) (hi : i < lc) : mt_K l g z yX1_fileSizeAt cX1_fileSizeAt 2 (some .int) 1 21 0 0 [.ref (ad (100 + i)), .int x] (mt_wc g ad lc mc bc N G o d) ad (.inr (some (.int (c_X1_fileSizeAt lc mc bc N G i x)))) (mt_wc g ad lc mc bc N G o d) ad := by
  refine mt_ofW (by decide +kernel) (Nat.le_of_ble_eq_true rfl) ?_
  intro p e s m args below meth c S hr hk hnm hout hC hW hS ls hl
  have hx := S.1
  have hb := S.2.1
  have hl : lv_has ls 2 [(0, .ref (ad (100 + i))), (1, .int (x))] := hl
  refine lv_aload_n hx hb dX1_fileSizeAt_0 rfl (lv_at hl 0 rfl) ?_
  refine lv_iload_n hx hb dX1_fileSizeAt_1 rfl (lv_at hl 1 rfl) ?_
  refine mt_cV1 (As := [.int (x)]) (rest := []) S pv_X1_kindAt mw_ml_X1_25 (k_X1_kindAt l hlt g z ad lc mc bc N G o d h6 h8 hb6 i x hi) hC hW hS (wc_lay h6 hi) rfl rfl rfl hl.1 rfl (Nat.le_of_ble_eq_true rfl) dX1_fileSizeAt_2 ⟨(Nat.le_of_ble_eq_true rfl), (Nat.le_of_ble_eq_true rfl)⟩ ⟨(Nat.le_of_ble_eq_true rfl), (Nat.le_of_ble_eq_true rfl)⟩ rfl (fun H locs hW hS => ?_)
  refine lv_iconst (v := 1) hx hb dX1_fileSizeAt_5 (by decide) ?_
  refine lv_icmp_ne (tgt := 17) hx hb dX1_fileSizeAt_6 (by decide) (fun c_1 => ?_) (fun c_1 => ?_)
  · refine lv_iconst (v := -1) hx hb dX1_fileSizeAt_17 (by decide) ?_
    exact mt_ri S hr hk hW hS (by rw [c_X1_fileSizeAt, if_neg c_1]) (Nat.le_of_ble_eq_true rfl) (Nat.le_of_ble_eq_true rfl) dX1_fileSizeAt_18
  · refine lv_aload_n hx hb dX1_fileSizeAt_9 rfl (lv_at hl 0 rfl) ?_
    refine lv_iload_n hx hb dX1_fileSizeAt_10 rfl (lv_at hl 1 rfl) ?_
    refine mt_cV1 (As := [.int (x)]) (rest := []) S pv_X1_valueAt mw_ml_X1_29 (k_X1_valueAt l hlt g z ad lc mc bc N G o d h6 h8 hb6 i x hi) hC hW hS (wc_lay h6 hi) rfl rfl rfl hl.1 rfl (Nat.le_of_ble_eq_true rfl) dX1_fileSizeAt_11 ⟨(Nat.le_of_ble_eq_true rfl), (Nat.le_of_ble_eq_true rfl)⟩ ⟨(Nat.le_of_ble_eq_true rfl), (Nat.le_of_ble_eq_true rfl)⟩ rfl (fun H locs hW hS => ?_)
    refine lv_goto (tgt := 18) hx hb dX1_fileSizeAt_14 (by decide) ?_
    exact mt_ri S hr hk hW hS (by rw [c_X1_fileSizeAt, if_pos c_1]) (Nat.le_of_ble_eq_true rfl) (Nat.le_of_ble_eq_true rfl) dX1_fileSizeAt_18
def c_X1_bytesAt (lc mc bc : Nat) (N G : Nat → Nat → Int32) (i : Nat) (x : Int32) : Int32 := if (c_X1_kindAt lc mc bc N G i x) = 1 then (c_X1_valueAt lc mc bc N G i x) else 0
set_option maxRecDepth 100000 in
set_option maxHeartbeats 4000000 in
theorem k_X1_bytesAt (l : Launch) (hlt : l.stackTraces = false) (g : mt_G) (z : Nat) (ad : Nat → Nat) (lc mc bc : Nat) (N G : Nat → Nat → Int32) (o : Nat → Int64) (d : Nat → UInt64) (h6 : lc ≤ 6) (h8 : mc ≤ 8) (hb6 : bc ≤ 6) (i : Nat) (x : Int32) (hi : i < lc) : mt_K l g z yX1_bytesAt cX1_bytesAt 2 (some .int) 1 21 0 0 [.ref (ad (100 + i)), .int x] (mt_wc g ad lc mc bc N G o d) ad (.inr (some (.int (c_X1_bytesAt lc mc bc N G i x)))) (mt_wc g ad lc mc bc N G o d) ad := by
  refine mt_ofW (by decide +kernel) (Nat.le_of_ble_eq_true rfl) ?_
  intro p e s m args below meth c S hr hk hnm hout hC hW hS ls hl
  have hx := S.1
  have hb := S.2.1
  have hl : lv_has ls 2 [(0, .ref (ad (100 + i))), (1, .int (x))] := hl
  refine lv_aload_n hx hb dX1_bytesAt_0 rfl (lv_at hl 0 rfl) ?_
  refine lv_iload_n hx hb dX1_bytesAt_1 rfl (lv_at hl 1 rfl) ?_
  refine mt_cV1 (As := [.int (x)]) (rest := []) S pv_X1_kindAt mw_ml_X1_25 (k_X1_kindAt l hlt g z ad lc mc bc N G o d h6 h8 hb6 i x hi) hC hW hS (wc_lay h6 hi) rfl rfl rfl hl.1 rfl (Nat.le_of_ble_eq_true rfl) dX1_bytesAt_2 ⟨(Nat.le_of_ble_eq_true rfl), (Nat.le_of_ble_eq_true rfl)⟩ ⟨(Nat.le_of_ble_eq_true rfl), (Nat.le_of_ble_eq_true rfl)⟩ rfl (fun H locs hW hS => ?_)
  refine lv_iconst (v := 1) hx hb dX1_bytesAt_5 (by decide) ?_
  refine lv_icmp_ne (tgt := 17) hx hb dX1_bytesAt_6 (by decide) (fun c_1 => ?_) (fun c_1 => ?_)
  · refine lv_iconst (v := 0) hx hb dX1_bytesAt_17 (by decide) ?_
    exact mt_ri S hr hk hW hS (by rw [c_X1_bytesAt, if_neg c_1]) (Nat.le_of_ble_eq_true rfl) (Nat.le_of_ble_eq_true rfl) dX1_bytesAt_18
  · refine lv_aload_n hx hb dX1_bytesAt_9 rfl (lv_at hl 0 rfl) ?_
    refine lv_iload_n hx hb dX1_bytesAt_10 rfl (lv_at hl 1 rfl) ?_
    refine mt_cV1 (As := [.int (x)]) (rest := []) S pv_X1_valueAt mw_ml_X1_29 (k_X1_valueAt l hlt g z ad lc mc bc N G o d h6 h8 hb6 i x hi) hC hW hS (wc_lay h6 hi) rfl rfl rfl hl.1 rfl (Nat.le_of_ble_eq_true rfl) dX1_bytesAt_11 ⟨(Nat.le_of_ble_eq_true rfl), (Nat.le_of_ble_eq_true rfl)⟩ ⟨(Nat.le_of_ble_eq_true rfl), (Nat.le_of_ble_eq_true rfl)⟩ rfl (fun H locs hW hS => ?_)
    refine lv_goto (tgt := 18) hx hb dX1_bytesAt_14 (by decide) ?_
    exact mt_ri S hr hk hW hS (by rw [c_X1_bytesAt, if_pos c_1]) (Nat.le_of_ble_eq_true rfl) (Nat.le_of_ble_eq_true rfl) dX1_bytesAt_18
def c_X1_bytesOfOwnerAt (lc mc bc : Nat) (N G : Nat → Nat → Int32) (i : Nat) (w : Int32) (x : Int32) : Int32 := if (c_X1_ownerAt lc mc bc N G i x) = w then (c_X1_bytesAt lc mc bc N G i x) else 0
set_option maxRecDepth 100000 in
set_option maxHeartbeats 4000000 in
theorem k_X1_bytesOfOwnerAt (l : Launch) (hlt : l.stackTraces = false) (g : mt_G) (z : Nat) (ad : Nat → Nat) (lc mc bc : Nat) (N G : Nat → Nat → Int32) (o : Nat → Int64) (d : Nat → UInt64) (h6 : lc ≤ 6) (h8 : mc ≤ 8) (hb6 : bc ≤ 6) (i : Nat) (w : Int32) (x : Int32) (hi : i < lc) : mt_K l g z yX1_bytesOfOwnerAt cX1_bytesOfOwnerAt 3 (some .int) 2 42 0 0 [.ref (ad (100 + i)), .int w, .int x] (mt_wc g ad lc mc bc N G o d) ad (.inr (some (.int (c_X1_bytesOfOwnerAt lc mc bc N G i w x)))) (mt_wc g ad lc mc bc N G o d) ad := by
  refine mt_ofW (by decide +kernel) (Nat.le_of_ble_eq_true rfl) ?_
  intro p e s m args below meth c S hr hk hnm hout hC hW hS ls hl
  have hx := S.1
  have hb := S.2.1
  have hl : lv_has ls 3 [(0, .ref (ad (100 + i))), (1, .int (w)), (2, .int (x))] := hl
  refine lv_aload_n hx hb dX1_bytesOfOwnerAt_0 rfl (lv_at hl 0 rfl) ?_
  refine lv_iload_n hx hb dX1_bytesOfOwnerAt_1 rfl (lv_at hl 2 rfl) ?_
  refine mt_cV1 (As := [.int (x)]) (rest := []) S pv_X1_ownerAt mw_ml_X1_32 (k_X1_ownerAt l hlt g z ad lc mc bc N G o d h6 h8 hb6 i x hi) hC hW hS (wc_lay h6 hi) rfl rfl rfl hl.1 rfl (Nat.le_of_ble_eq_true rfl) dX1_bytesOfOwnerAt_2 ⟨(Nat.le_of_ble_eq_true rfl), (Nat.le_of_ble_eq_true rfl)⟩ ⟨(Nat.le_of_ble_eq_true rfl), (Nat.le_of_ble_eq_true rfl)⟩ rfl (fun H locs hW hS => ?_)
  refine lv_iload_n hx hb dX1_bytesOfOwnerAt_5 rfl (lv_at hl 1 rfl) ?_
  refine lv_icmp_ne (tgt := 17) hx hb dX1_bytesOfOwnerAt_6 (by decide) (fun c_1 => ?_) (fun c_1 => ?_)
  · refine lv_iconst (v := 0) hx hb dX1_bytesOfOwnerAt_17 (by decide) ?_
    exact mt_ri S hr hk hW hS (by rw [c_X1_bytesOfOwnerAt, if_neg c_1]) (Nat.le_of_ble_eq_true rfl) (Nat.le_of_ble_eq_true rfl) dX1_bytesOfOwnerAt_18
  · refine lv_aload_n hx hb dX1_bytesOfOwnerAt_9 rfl (lv_at hl 0 rfl) ?_
    refine lv_iload_n hx hb dX1_bytesOfOwnerAt_10 rfl (lv_at hl 2 rfl) ?_
    refine mt_cV1 (As := [.int (x)]) (rest := []) S pv_X1_bytesAt mw_ml_X1_35 (k_X1_bytesAt l hlt g z ad lc mc bc N G o d h6 h8 hb6 i x hi) hC hW hS (wc_lay h6 hi) rfl rfl rfl hl.1 rfl (Nat.le_of_ble_eq_true rfl) dX1_bytesOfOwnerAt_11 ⟨(Nat.le_of_ble_eq_true rfl), (Nat.le_of_ble_eq_true rfl)⟩ ⟨(Nat.le_of_ble_eq_true rfl), (Nat.le_of_ble_eq_true rfl)⟩ rfl (fun H locs hW hS => ?_)
    refine lv_goto (tgt := 18) hx hb dX1_bytesOfOwnerAt_14 (by decide) ?_
    exact mt_ri S hr hk hW hS (by rw [c_X1_bytesOfOwnerAt, if_pos c_1]) (Nat.le_of_ble_eq_true rfl) (Nat.le_of_ble_eq_true rfl) dX1_bytesOfOwnerAt_18
def c_X1_put_G (lc mc bc : Nat) (N G : Nat → Nat → Int32) (i : Nat) (x : Int32) (k : Int32) (w : Int32) (v : Int32) : Nat → Nat → Int32 := if (c_X3_isPlace x) = 0 then G else (mt_gu (mt_gu (mt_gu G (110 + i) x.toNatClampNeg k) (120 + i) x.toNatClampNeg w) (130 + i) x.toNatClampNeg v)
set_option maxRecDepth 100000 in
set_option maxHeartbeats 4000000 in
theorem k_X1_put (l : Launch) (hlt : l.stackTraces = false) (g : mt_G) (z : Nat) (ad : Nat → Nat) (lc mc bc : Nat) (N G : Nat → Nat → Int32) (o : Nat → Int64) (d : Nat → UInt64) (h6 : lc ≤ 6) (h8 : mc ≤ 8) (hb6 : bc ≤ 6) (i : Nat) (x : Int32) (k : Int32) (w : Int32) (v : Int32) (hi : i < lc) : mt_K l g z yX1_put cX1_put 5 none 1 20 0 0 [.ref (ad (100 + i)), .int x, .int k, .int w, .int v] (mt_wc g ad lc mc bc N G o d) ad (.inr none) (mt_wc g ad lc mc bc N (c_X1_put_G lc mc bc N G i x k w v) o d) ad := by
  refine mt_ofW (by decide +kernel) (Nat.le_of_ble_eq_true rfl) ?_
  intro p e s m args below meth c S hr hk hnm hout hC hW hS ls hl
  have hx := S.1
  have hb := S.2.1
  have hl : lv_has ls 5 [(0, .ref (ad (100 + i))), (1, .int (x)), (2, .int (k)), (3, .int (w)), (4, .int (v))] := hl
  refine lv_iload_n hx hb dX1_put_0 rfl (lv_at hl 1 rfl) ?_
  refine mt_cN1 (As := [.int (x)]) (rest := []) S ps_X3_isPlace mw_mn_X1_38 (k_X3_isPlace l hlt g z ad lc mc bc N G o d h6 h8 hb6 x) hC hW hS rfl hl.1 rfl (Nat.le_of_ble_eq_true rfl) dX1_put_1 ⟨(Nat.le_of_ble_eq_true rfl), (Nat.le_of_ble_eq_true rfl)⟩ ⟨(Nat.le_of_ble_eq_true rfl), (Nat.le_of_ble_eq_true rfl)⟩ (fun H locs hW hS => ?_)
  refine lv_if_eq (tgt := 29) hx hb dX1_put_4 (by decide) (fun c_1 => ?_) (fun c_1 => ?_)
  · have hW := hW.to (w1 := mt_wc g ad lc mc bc N (c_X1_put_G lc mc bc N G i x k w v) o d) (by rw [c_X1_put_G, if_pos c_1])
    exact mt_rv S hr hk hW hS rfl (Nat.le_of_ble_eq_true rfl) (Nat.le_of_ble_eq_true rfl) dX1_put_29
  · refine lv_aload_n hx hb dX1_put_7 rfl (lv_at hl 0 rfl) ?_
    refine mt_get S iw_X1 hC hW (wc_lay h6 hi) rfl 0 (by decide) mw_fl_X1_9 rfl rfl dX1_put_8 ?_
    refine lv_iload_n hx hb dX1_put_11 rfl (lv_at hl 1 rfl) ?_
    refine lv_iload_n hx hb dX1_put_12 rfl (lv_at hl 2 rfl) ?_
    refine wk_iast S hC hW hS (ar_k h6 hi) (c_isPlace_in c_1) dX1_put_13 (fun H locs hW hS => ?_)
    refine lv_aload_n hx hb dX1_put_14 rfl (lv_at hl 0 rfl) ?_
    refine mt_get S iw_X1 hC hW (wc_lay h6 hi) rfl 1 (by decide) mw_fl_X1_15 rfl rfl dX1_put_15 ?_
    refine lv_iload_n hx hb dX1_put_18 rfl (lv_at hl 1 rfl) ?_
    refine lv_iload_n hx hb dX1_put_19 rfl (lv_at hl 3 rfl) ?_
    refine wk_iast S hC hW hS (ar_o h6 hi) (c_isPlace_in c_1) dX1_put_20 (fun H locs hW hS => ?_)
    refine lv_aload_n hx hb dX1_put_21 rfl (lv_at hl 0 rfl) ?_
    refine mt_get S iw_X1 hC hW (wc_lay h6 hi) rfl 2 (by decide) mw_fl_X1_18 rfl rfl dX1_put_22 ?_
    refine lv_iload_n hx hb dX1_put_25 rfl (lv_at hl 1 rfl) ?_
    refine lv_iload hx hb dX1_put_26 (lv_at hl 4 rfl) ?_
    refine wk_iast S hC hW hS (ar_v h6 hi) (c_isPlace_in c_1) dX1_put_28 (fun H locs hW hS => ?_)
    have hW := hW.to (w1 := mt_wc g ad lc mc bc N (c_X1_put_G lc mc bc N G i x k w v) o d) (by rw [c_X1_put_G, if_neg c_1])
    exact mt_rv S hr hk hW hS rfl (Nat.le_of_ble_eq_true rfl) (Nat.le_of_ble_eq_true rfl) dX1_put_29
def c_X1_bytesNotYetCounted (lc mc bc : Nat) (N G : Nat → Nat → Int32) (i : Nat) (x : Int32) : Int32 := if (c_X3_isPlace x) = 0 then 0 else (if (G (140 + i) x.toNatClampNeg) = 0 then (c_X1_bytesAt lc mc bc N (mt_gu G (140 + i) x.toNatClampNeg 1) i x) else 0)
def c_X1_bytesNotYetCounted_G (lc mc bc : Nat) (N G : Nat → Nat → Int32) (i : Nat) (x : Int32) : Nat → Nat → Int32 := if (c_X3_isPlace x) = 0 then G else (if (G (140 + i) x.toNatClampNeg) = 0 then (mt_gu G (140 + i) x.toNatClampNeg 1) else G)
set_option maxRecDepth 100000 in
set_option maxHeartbeats 4000000 in
theorem k_X1_bytesNotYetCounted (l : Launch) (hlt : l.stackTraces = false) (g : mt_G) (z : Nat) (ad : Nat → Nat) (lc mc bc : Nat) (N G : Nat → Nat → Int32) (o : Nat → Int64) (d : Nat → UInt64) (h6 : lc ≤ 6) (h8 : mc ≤ 8) (hb6 : bc ≤ 6) (i : Nat) (x : Int32) (hi : i < lc) : mt_K l g z yX1_bytesNotYetCounted cX1_bytesNotYetCounted 2 (some .int) 2 42 0 0 [.ref (ad (100 + i)), .int x] (mt_wc g ad lc mc bc N G o d) ad (.inr (some (.int (c_X1_bytesNotYetCounted lc mc bc N G i x)))) (mt_wc g ad lc mc bc N (c_X1_bytesNotYetCounted_G lc mc bc N G i x) o d) ad := by
  refine mt_ofW (by decide +kernel) (Nat.le_of_ble_eq_true rfl) ?_
  intro p e s m args below meth c S hr hk hnm hout hC hW hS ls hl
  have hx := S.1
  have hb := S.2.1
  have hl : lv_has ls 2 [(0, .ref (ad (100 + i))), (1, .int (x))] := hl
  refine lv_iload_n hx hb dX1_bytesNotYetCounted_0 rfl (lv_at hl 1 rfl) ?_
  refine mt_cN1 (As := [.int (x)]) (rest := []) S ps_X3_isPlace mw_mn_X1_38 (k_X3_isPlace l hlt g z ad lc mc bc N G o d h6 h8 hb6 x) hC hW hS rfl hl.1 rfl (Nat.le_of_ble_eq_true rfl) dX1_bytesNotYetCounted_1 ⟨(Nat.le_of_ble_eq_true rfl), (Nat.le_of_ble_eq_true rfl)⟩ ⟨(Nat.le_of_ble_eq_true rfl), (Nat.le_of_ble_eq_true rfl)⟩ (fun H locs hW hS => ?_)
  refine lv_if_eq (tgt := 16) hx hb dX1_bytesNotYetCounted_4 (by decide) (fun c_1 => ?_) (fun c_1 => ?_)
  · refine lv_iconst (v := 0) hx hb dX1_bytesNotYetCounted_16 (by decide) ?_
    have hW := hW.to (w1 := mt_wc g ad lc mc bc N (c_X1_bytesNotYetCounted_G lc mc bc N G i x) o d) (by rw [c_X1_bytesNotYetCounted_G, if_pos c_1])
    exact mt_ri S hr hk hW hS (by rw [c_X1_bytesNotYetCounted, if_pos c_1]) (Nat.le_of_ble_eq_true rfl) (Nat.le_of_ble_eq_true rfl) dX1_bytesNotYetCounted_17
  · refine lv_aload_n hx hb dX1_bytesNotYetCounted_7 rfl (lv_at hl 0 rfl) ?_
    refine mt_get S iw_X1 hC hW (wc_lay h6 hi) rfl 3 (by decide) mw_fl_X1_21 rfl rfl dX1_bytesNotYetCounted_8 ?_
    refine lv_iload_n hx hb dX1_bytesNotYetCounted_11 rfl (lv_at hl 1 rfl) ?_
    refine wk_zald S hC hW (ar_c h6 hi) (c_isPlace_in c_1) dX1_bytesNotYetCounted_12 ?_
    refine lv_if_eq (tgt := 18) hx hb dX1_bytesNotYetCounted_13 (by decide) (fun c_2 => ?_) (fun c_2 => ?_)
    · refine lv_aload_n hx hb dX1_bytesNotYetCounted_18 rfl (lv_at hl 0 rfl) ?_
      refine mt_get S iw_X1 hC hW (wc_lay h6 hi) rfl 3 (by decide) mw_fl_X1_21 rfl rfl dX1_bytesNotYetCounted_19 ?_
      refine lv_iload_n hx hb dX1_bytesNotYetCounted_22 rfl (lv_at hl 1 rfl) ?_
      refine lv_iconst (v := 1) hx hb dX1_bytesNotYetCounted_23 (by decide) ?_
      refine wk_zast S hC hW hS (ar_c h6 hi) (c_isPlace_in c_1) rfl dX1_bytesNotYetCounted_24 (fun H locs hW hS => ?_)
      refine lv_aload_n hx hb dX1_bytesNotYetCounted_25 rfl (lv_at hl 0 rfl) ?_
      refine lv_iload_n hx hb dX1_bytesNotYetCounted_26 rfl (lv_at hl 1 rfl) ?_
      refine mt_cV1 (As := [.int (x)]) (rest := []) S pv_X1_bytesAt mw_ml_X1_35 (k_X1_bytesAt l hlt g z ad lc mc bc N (mt_gu G (140 + i) x.toNatClampNeg 1) o d h6 h8 hb6 i x hi) hC hW hS (wc_lay h6 hi) rfl rfl rfl hl.1 rfl (Nat.le_of_ble_eq_true rfl) dX1_bytesNotYetCounted_27 ⟨(Nat.le_of_ble_eq_true rfl), (Nat.le_of_ble_eq_true rfl)⟩ ⟨(Nat.le_of_ble_eq_true rfl), (Nat.le_of_ble_eq_true rfl)⟩ rfl (fun H locs hW hS => ?_)
      have hW := hW.to (w1 := mt_wc g ad lc mc bc N (c_X1_bytesNotYetCounted_G lc mc bc N G i x) o d) (by rw [c_X1_bytesNotYetCounted_G, if_neg c_1, if_pos c_2])
      exact mt_ri S hr hk hW hS (by rw [c_X1_bytesNotYetCounted, if_neg c_1, if_pos c_2]) (Nat.le_of_ble_eq_true rfl) (Nat.le_of_ble_eq_true rfl) dX1_bytesNotYetCounted_30
    · refine lv_iconst (v := 0) hx hb dX1_bytesNotYetCounted_16 (by decide) ?_
      have hW := hW.to (w1 := mt_wc g ad lc mc bc N (c_X1_bytesNotYetCounted_G lc mc bc N G i x) o d) (by rw [c_X1_bytesNotYetCounted_G, if_neg c_1, if_neg c_2])
      exact mt_ri S hr hk hW hS (by rw [c_X1_bytesNotYetCounted, if_neg c_1, if_neg c_2]) (Nat.le_of_ble_eq_true rfl) (Nat.le_of_ble_eq_true rfl) dX1_bytesNotYetCounted_17
def c_X2_written (lc mc bc : Nat) (N G : Nat → Nat → Int32) (i : Nat) : Int32 := if (N (150 + i) 1) = (-1) then (N (150 + i) 0) else (N (150 + i) 1)
set_option maxRecDepth 100000 in
set_option maxHeartbeats 4000000 in
theorem k_X2_written (l : Launch) (hlt : l.stackTraces = false) (g : mt_G) (z : Nat) (ad : Nat → Nat) (lc mc bc : Nat) (N G : Nat → Nat → Int32) (o : Nat → Int64) (d : Nat → UInt64) (h6 : lc ≤ 6) (h8 : mc ≤ 8) (hb6 : bc ≤ 6) (i : Nat) (hi : i < mc) : mt_K l g z yX2_written cX2_written 1 (some .int) 0 0 0 0 [.ref (ad (150 + i))] (mt_wc g ad lc mc bc N G o d) ad (.inr (some (.int (c_X2_written lc mc bc N G i)))) (mt_wc g ad lc mc bc N G o d) ad := by
  refine mt_ofW (by decide +kernel) (Nat.le_of_ble_eq_true rfl) ?_
  intro p e s m args below meth c S hr hk hnm hout hC hW hS ls hl
  have hx := S.1
  have hb := S.2.1
  have hl : lv_has ls 1 [(0, .ref (ad (150 + i)))] := hl
  refine lv_aload_n hx hb dX2_written_0 rfl (lv_at hl 0 rfl) ?_
  refine mt_get S iw_X2 hC hW (wc_mnt h8 hi) rfl 1 (by decide) mw_fl_X2_18 rfl rfl dX2_written_1 ?_
  refine lv_iconst (v := -1) hx hb dX2_written_4 (by decide) ?_
  refine lv_icmp_ne (tgt := 15) hx hb dX2_written_5 (by decide) (fun c_1 => ?_) (fun c_1 => ?_)
  · refine lv_aload_n hx hb dX2_written_15 rfl (lv_at hl 0 rfl) ?_
    refine mt_get S iw_X2 hC hW (wc_mnt h8 hi) rfl 1 (by decide) mw_fl_X2_18 rfl rfl dX2_written_16 ?_
    exact mt_ri S hr hk hW hS (by rw [c_X2_written, if_neg c_1]) (Nat.le_of_ble_eq_true rfl) (Nat.le_of_ble_eq_true rfl) dX2_written_19
  · refine lv_aload_n hx hb dX2_written_8 rfl (lv_at hl 0 rfl) ?_
    refine mt_get S iw_X2 hC hW (wc_mnt h8 hi) rfl 0 (by decide) mw_fl_X2_15 rfl rfl dX2_written_9 ?_
    refine lv_goto (tgt := 19) hx hb dX2_written_12 (by decide) ?_
    exact mt_ri S hr hk hW hS (by rw [c_X2_written, if_pos c_1]) (Nat.le_of_ble_eq_true rfl) (Nat.le_of_ble_eq_true rfl) dX2_written_19
end
section
def c_X1_countOf_ln (lc mc bc : Nat) (N G : Nat → Nat → Int32) (i : Nat) (x : Int32) : Nat → Int32
  | 0 => 0
  | k + 1 => if (G (110 + i) k) = x then (c_X1_countOf_ln lc mc bc N G i x k + 1) else (c_X1_countOf_ln lc mc bc N G i x k)
def c_X1_countOf (lc mc bc : Nat) (N G : Nat → Nat → Int32) (i : Nat) (x : Int32) : Int32 := c_X1_countOf_ln lc mc bc N G i x 341
set_option maxRecDepth 100000 in
set_option maxHeartbeats 4000000 in
theorem k_X1_countOf (l : Launch) (hlt : l.stackTraces = false) (g : mt_G) (z : Nat) (ad : Nat → Nat) (lc mc bc : Nat) (N G : Nat → Nat → Int32) (o : Nat → Int64) (d : Nat → UInt64) (h6 : lc ≤ 6) (h8 : mc ≤ 8) (hb6 : bc ≤ 6) (i : Nat) (x : Int32) (hi : i < lc) : mt_K l g z yX1_countOf cX1_countOf 4 (some .int) 0 0 0 0 [.ref (ad (100 + i)), .int x] (mt_wc g ad lc mc bc N G o d) ad (.inr (some (.int (c_X1_countOf lc mc bc N G i x)))) (mt_wc g ad lc mc bc N G o d) ad := by
  refine mt_ofW (by decide +kernel) (Nat.le_of_ble_eq_true rfl) ?_
  intro p e s m args below meth c S hr hk hnm hout hC hW hS ls hl
  have hx := S.1
  have hb := S.2.1
  have hl : lv_has ls 4 [(0, .ref (ad (100 + i))), (1, .int (x))] := hl
  refine lv_iconst (v := 0) hx hb dX1_countOf_0 (by decide) ?_
  refine lv_istore_n (lv' := [(2, .int (0)), (0, .ref (ad (100 + i))), (1, .int (x))]) hx hb dX1_countOf_1 rfl hl (by decide) rfl (fun ls hl => ?_)
  refine lv_iconst (v := 0) hx hb dX1_countOf_2 (by decide) ?_
  refine lv_istore_n (lv' := [(3, .int (0)), (2, .int (0)), (0, .ref (ad (100 + i))), (1, .int (x))]) hx hb dX1_countOf_3 rfl hl (by decide) rfl (fun ls hl => ?_)
  have hl : lv_has ls 4 [(3, .int (nI 0)), (2, .int (c_X1_countOf_ln lc mc bc N G i x 0)), (0, .ref (ad (100 + i))), (1, .int (x))] := lv_sub hl [0, 1, 2, 3] rfl
  refine lp_up 341 (fun k => mt_wc g ad lc mc bc N G o d) (fun k => [(3, .int (nI k)), (2, .int (c_X1_countOf_ln lc mc bc N G i x k)), (0, .ref (ad (100 + i))), (1, .int (x))]) (fun _ => True) 0 (by omega) trivial hW hS hl (fun H locs ls hP hW hS hl => ?_) (fun k H locs ls hk0 hkn hP hW hS hl ih => ?_)
  · have hW : mt_W g z (mt_wc g ad lc mc bc N G o d) ad _ := hW
    have hl : lv_has ls 4 [(3, .int (nI 341)), (2, .int (c_X1_countOf_ln lc mc bc N G i x 341)), (0, .ref (ad (100 + i))), (1, .int (x))] := hl
    refine lv_iload_n hx hb dX1_countOf_4 rfl (lv_at hl 0 rfl) ?_
    refine lv_sipush (v := 341) hx hb dX1_countOf_5 (by decide) ?_
    refine lv_icmp_ge (tgt := 30) hx hb dX1_countOf_8 (by decide) (fun c_1 => ?_) (fun c_1 => absurd (nI_le (a := 341) (b := 341) (Nat.le_refl _) (by omega)) c_1)
    refine lv_iload_n hx hb dX1_countOf_30 rfl (lv_at hl 1 rfl) ?_
    exact mt_ri S hr hk hW hS (by rw [c_X1_countOf]) (Nat.le_of_ble_eq_true rfl) (Nat.le_of_ble_eq_true rfl) dX1_countOf_31
  · have hW : mt_W g z (mt_wc g ad lc mc bc N G o d) ad _ := hW
    have hl : lv_has ls 4 [(3, .int (nI k)), (2, .int (c_X1_countOf_ln lc mc bc N G i x k)), (0, .ref (ad (100 + i))), (1, .int (x))] := hl
    refine lv_iload_n hx hb dX1_countOf_4 rfl (lv_at hl 0 rfl) ?_
    refine lv_sipush (v := 341) hx hb dX1_countOf_5 (by decide) ?_
    refine lv_icmp_ge (tgt := 30) hx hb dX1_countOf_8 (by decide) (fun c_2 => absurd c_2 (nI_ge (a := k) (b := 341) hkn (by omega))) (fun c_2 => ?_)
    refine lv_aload_n hx hb dX1_countOf_11 rfl (lv_at hl 2 rfl) ?_
    refine mt_get S iw_X1 hC hW (wc_lay h6 hi) rfl 0 (by decide) mw_fl_X1_9 rfl rfl dX1_countOf_12 ?_
    refine lv_iload_n hx hb dX1_countOf_15 rfl (lv_at hl 0 rfl) ?_
    refine wk_ialn S hC hW (ar_k h6 hi) k rfl (by omega) (by decide) dX1_countOf_16 ?_
    refine lv_iload_n hx hb dX1_countOf_17 rfl (lv_at hl 3 rfl) ?_
    refine lv_icmp_ne (tgt := 24) hx hb dX1_countOf_18 (by decide) (fun c_3 => ?_) (fun c_3 => ?_)
    · refine lv_iinc (v := nI (k + 1)) (lv' := [(3, .int (nI (k + 1))), (2, .int (c_X1_countOf_ln lc mc bc N G i x k)), (0, .ref (ad (100 + i))), (1, .int (x))]) hx hb dX1_countOf_24 hl (k := 0) rfl (nI_1 _) (by decide) rfl (fun ls hl => ?_)
      refine lv_goto (tgt := 4) hx hb dX1_countOf_27 (by decide) ?_
      have hl : lv_has ls 4 [(3, .int (nI (k + 1))), (2, .int (c_X1_countOf_ln lc mc bc N G i x (k + 1))), (0, .ref (ad (100 + i))), (1, .int (x))] := by rw [show c_X1_countOf_ln lc mc bc N G i x (k + 1) = c_X1_countOf_ln lc mc bc N G i x k from (by rw [c_X1_countOf_ln, if_neg c_3])]; exact lv_sub hl [0, 1, 2, 3] rfl
      exact ih _ _ _ trivial hW hS hl
    · refine lv_iinc (v := c_X1_countOf_ln lc mc bc N G i x k + 1) (lv' := [(2, .int (c_X1_countOf_ln lc mc bc N G i x k + 1)), (3, .int (nI k)), (0, .ref (ad (100 + i))), (1, .int (x))]) hx hb dX1_countOf_21 hl (k := 1) rfl rfl (by decide) rfl (fun ls hl => ?_)
      refine lv_iinc (v := nI (k + 1)) (lv' := [(3, .int (nI (k + 1))), (2, .int (c_X1_countOf_ln lc mc bc N G i x k + 1)), (0, .ref (ad (100 + i))), (1, .int (x))]) hx hb dX1_countOf_24 hl (k := 1) rfl (nI_1 _) (by decide) rfl (fun ls hl => ?_)
      refine lv_goto (tgt := 4) hx hb dX1_countOf_27 (by decide) ?_
      have hl : lv_has ls 4 [(3, .int (nI (k + 1))), (2, .int (c_X1_countOf_ln lc mc bc N G i x (k + 1))), (0, .ref (ad (100 + i))), (1, .int (x))] := by rw [show c_X1_countOf_ln lc mc bc N G i x (k + 1) = c_X1_countOf_ln lc mc bc N G i x k + 1 from (by rw [c_X1_countOf_ln, if_pos c_3])]; exact lv_sub hl [0, 1, 2, 3] rfl
      exact ih _ _ _ trivial hW hS hl
def c_X1_bytesOfOwner_ln (lc mc bc : Nat) (N G : Nat → Nat → Int32) (i : Nat) (x : Int32) : Nat → Int32
  | 0 => 0
  | k + 1 => (c_X1_bytesOfOwner_ln lc mc bc N G i x k) + (c_X1_bytesOfOwnerAt lc mc bc N G i x (nI k))
def c_X1_bytesOfOwner (lc mc bc : Nat) (N G : Nat → Nat → Int32) (i : Nat) (x : Int32) : Int32 := c_X1_bytesOfOwner_ln lc mc bc N G i x 341
set_option maxRecDepth 100000 in
set_option maxHeartbeats 4000000 in
theorem k_X1_bytesOfOwner (l : Launch) (hlt : l.stackTraces = false) (g : mt_G) (z : Nat) (ad : Nat → Nat) (lc mc bc : Nat) (N G : Nat → Nat → Int32) (o : Nat → Int64) (d : Nat → UInt64) (h6 : lc ≤ 6) (h8 : mc ≤ 8) (hb6 : bc ≤ 6) (i : Nat) (x : Int32) (hi : i < lc) : mt_K l g z yX1_bytesOfOwner cX1_bytesOfOwner 4 (some .int) 3 64 0 0 [.ref (ad (100 + i)), .int x] (mt_wc g ad lc mc bc N G o d) ad (.inr (some (.int (c_X1_bytesOfOwner lc mc bc N G i x)))) (mt_wc g ad lc mc bc N G o d) ad := by
  refine mt_ofW (by decide +kernel) (Nat.le_of_ble_eq_true rfl) ?_
  intro p e s m args below meth c S hr hk hnm hout hC hW hS ls hl
  have hx := S.1
  have hb := S.2.1
  have hl : lv_has ls 4 [(0, .ref (ad (100 + i))), (1, .int (x))] := hl
  refine lv_iconst (v := 0) hx hb dX1_bytesOfOwner_0 (by decide) ?_
  refine lv_istore_n (lv' := [(2, .int (0)), (0, .ref (ad (100 + i))), (1, .int (x))]) hx hb dX1_bytesOfOwner_1 rfl hl (by decide) rfl (fun ls hl => ?_)
  refine lv_iconst (v := 0) hx hb dX1_bytesOfOwner_2 (by decide) ?_
  refine lv_istore_n (lv' := [(3, .int (0)), (2, .int (0)), (0, .ref (ad (100 + i))), (1, .int (x))]) hx hb dX1_bytesOfOwner_3 rfl hl (by decide) rfl (fun ls hl => ?_)
  have hl : lv_has ls 4 [(3, .int (nI 0)), (2, .int (c_X1_bytesOfOwner_ln lc mc bc N G i x 0)), (0, .ref (ad (100 + i))), (1, .int (x))] := lv_sub hl [0, 1, 2, 3] rfl
  refine lp_up 341 (fun k => mt_wc g ad lc mc bc N G o d) (fun k => [(3, .int (nI k)), (2, .int (c_X1_bytesOfOwner_ln lc mc bc N G i x k)), (0, .ref (ad (100 + i))), (1, .int (x))]) (fun _ => True) 0 (by omega) trivial hW hS hl (fun H locs ls hP hW hS hl => ?_) (fun k H locs ls hk0 hkn hP hW hS hl ih => ?_)
  · have hW : mt_W g z (mt_wc g ad lc mc bc N G o d) ad _ := hW
    have hl : lv_has ls 4 [(3, .int (nI 341)), (2, .int (c_X1_bytesOfOwner_ln lc mc bc N G i x 341)), (0, .ref (ad (100 + i))), (1, .int (x))] := hl
    refine lv_iload_n hx hb dX1_bytesOfOwner_4 rfl (lv_at hl 0 rfl) ?_
    refine lv_sipush (v := 341) hx hb dX1_bytesOfOwner_5 (by decide) ?_
    refine lv_icmp_ge (tgt := 26) hx hb dX1_bytesOfOwner_8 (by decide) (fun c_1 => ?_) (fun c_1 => absurd (nI_le (a := 341) (b := 341) (Nat.le_refl _) (by omega)) c_1)
    refine lv_iload_n hx hb dX1_bytesOfOwner_26 rfl (lv_at hl 1 rfl) ?_
    exact mt_ri S hr hk hW hS (by rw [c_X1_bytesOfOwner]) (Nat.le_of_ble_eq_true rfl) (Nat.le_of_ble_eq_true rfl) dX1_bytesOfOwner_27
  · have hW : mt_W g z (mt_wc g ad lc mc bc N G o d) ad _ := hW
    have hl : lv_has ls 4 [(3, .int (nI k)), (2, .int (c_X1_bytesOfOwner_ln lc mc bc N G i x k)), (0, .ref (ad (100 + i))), (1, .int (x))] := hl
    refine lv_iload_n hx hb dX1_bytesOfOwner_4 rfl (lv_at hl 0 rfl) ?_
    refine lv_sipush (v := 341) hx hb dX1_bytesOfOwner_5 (by decide) ?_
    refine lv_icmp_ge (tgt := 26) hx hb dX1_bytesOfOwner_8 (by decide) (fun c_2 => absurd c_2 (nI_ge (a := k) (b := 341) hkn (by omega))) (fun c_2 => ?_)
    refine lv_iload_n hx hb dX1_bytesOfOwner_11 rfl (lv_at hl 1 rfl) ?_
    refine lv_aload_n hx hb dX1_bytesOfOwner_12 rfl (lv_at hl 2 rfl) ?_
    refine lv_iload_n hx hb dX1_bytesOfOwner_13 rfl (lv_at hl 3 rfl) ?_
    refine lv_iload_n hx hb dX1_bytesOfOwner_14 rfl (lv_at hl 0 rfl) ?_
    refine mt_cV1 (As := [.int (x), .int (nI k)]) (rest := [.int (c_X1_bytesOfOwner_ln lc mc bc N G i x k)]) S pv_X1_bytesOfOwnerAt mw_ml_X1_42 (k_X1_bytesOfOwnerAt l hlt g z ad lc mc bc N G o d h6 h8 hb6 i x (nI k) hi) hC hW hS (wc_lay h6 hi) rfl rfl rfl hl.1 rfl (Nat.le_of_ble_eq_true rfl) dX1_bytesOfOwner_15 ⟨(Nat.le_of_ble_eq_true rfl), (Nat.le_of_ble_eq_true rfl)⟩ ⟨(Nat.le_of_ble_eq_true rfl), (Nat.le_of_ble_eq_true rfl)⟩ rfl (fun H locs hW hS => ?_)
    refine lv_iadd hx hb dX1_bytesOfOwner_18 ?_
    refine lv_istore_n (lv' := [(2, .int ((c_X1_bytesOfOwner_ln lc mc bc N G i x k) + (c_X1_bytesOfOwnerAt lc mc bc N G i x (nI k)))), (3, .int (nI k)), (0, .ref (ad (100 + i))), (1, .int (x))]) hx hb dX1_bytesOfOwner_19 rfl hl (by decide) rfl (fun ls hl => ?_)
    refine lv_iinc (v := nI (k + 1)) (lv' := [(3, .int (nI (k + 1))), (2, .int ((c_X1_bytesOfOwner_ln lc mc bc N G i x k) + (c_X1_bytesOfOwnerAt lc mc bc N G i x (nI k)))), (0, .ref (ad (100 + i))), (1, .int (x))]) hx hb dX1_bytesOfOwner_20 hl (k := 1) rfl (nI_1 _) (by decide) rfl (fun ls hl => ?_)
    refine lv_goto (tgt := 4) hx hb dX1_bytesOfOwner_23 (by decide) ?_
    have hl : lv_has ls 4 [(3, .int (nI (k + 1))), (2, .int (c_X1_bytesOfOwner_ln lc mc bc N G i x (k + 1))), (0, .ref (ad (100 + i))), (1, .int (x))] := by rw [show c_X1_bytesOfOwner_ln lc mc bc N G i x (k + 1) = (c_X1_bytesOfOwner_ln lc mc bc N G i x k) + (c_X1_bytesOfOwnerAt lc mc bc N G i x (nI k)) from (by rw [c_X1_bytesOfOwner_ln])]; exact lv_sub hl [0, 1, 2, 3] rfl
    exact ih _ _ _ trivial hW hS hl
def c_X1_allBytesOfFiles_ln (lc mc bc : Nat) (N G : Nat → Nat → Int32) (i : Nat) : Nat → Int32
  | 0 => 0
  | k + 1 => (c_X1_allBytesOfFiles_ln lc mc bc N G i k) + (c_X1_bytesAt lc mc bc N G i (nI k))
def c_X1_allBytesOfFiles (lc mc bc : Nat) (N G : Nat → Nat → Int32) (i : Nat) : Int32 := c_X1_allBytesOfFiles_ln lc mc bc N G i 341
set_option maxRecDepth 100000 in
set_option maxHeartbeats 4000000 in
theorem k_X1_allBytesOfFiles (l : Launch) (hlt : l.stackTraces = false) (g : mt_G) (z : Nat) (ad : Nat → Nat) (lc mc bc : Nat) (N G : Nat → Nat → Int32) (o : Nat → Int64) (d : Nat → UInt64) (h6 : lc ≤ 6) (h8 : mc ≤ 8) (hb6 : bc ≤ 6) (i : Nat) (hi : i < lc) : mt_K l g z yX1_allBytesOfFiles cX1_allBytesOfFiles 3 (some .int) 2 42 0 0 [.ref (ad (100 + i))] (mt_wc g ad lc mc bc N G o d) ad (.inr (some (.int (c_X1_allBytesOfFiles lc mc bc N G i)))) (mt_wc g ad lc mc bc N G o d) ad := by
  refine mt_ofW (by decide +kernel) (Nat.le_of_ble_eq_true rfl) ?_
  intro p e s m args below meth c S hr hk hnm hout hC hW hS ls hl
  have hx := S.1
  have hb := S.2.1
  have hl : lv_has ls 3 [(0, .ref (ad (100 + i)))] := hl
  refine lv_iconst (v := 0) hx hb dX1_allBytesOfFiles_0 (by decide) ?_
  refine lv_istore_n (lv' := [(1, .int (0)), (0, .ref (ad (100 + i)))]) hx hb dX1_allBytesOfFiles_1 rfl hl (by decide) rfl (fun ls hl => ?_)
  refine lv_iconst (v := 0) hx hb dX1_allBytesOfFiles_2 (by decide) ?_
  refine lv_istore_n (lv' := [(2, .int (0)), (1, .int (0)), (0, .ref (ad (100 + i)))]) hx hb dX1_allBytesOfFiles_3 rfl hl (by decide) rfl (fun ls hl => ?_)
  have hl : lv_has ls 3 [(2, .int (nI 0)), (1, .int (c_X1_allBytesOfFiles_ln lc mc bc N G i 0)), (0, .ref (ad (100 + i)))] := lv_sub hl [0, 1, 2] rfl
  refine lp_up 341 (fun k => mt_wc g ad lc mc bc N G o d) (fun k => [(2, .int (nI k)), (1, .int (c_X1_allBytesOfFiles_ln lc mc bc N G i k)), (0, .ref (ad (100 + i)))]) (fun _ => True) 0 (by omega) trivial hW hS hl (fun H locs ls hP hW hS hl => ?_) (fun k H locs ls hk0 hkn hP hW hS hl ih => ?_)
  · have hW : mt_W g z (mt_wc g ad lc mc bc N G o d) ad _ := hW
    have hl : lv_has ls 3 [(2, .int (nI 341)), (1, .int (c_X1_allBytesOfFiles_ln lc mc bc N G i 341)), (0, .ref (ad (100 + i)))] := hl
    refine lv_iload_n hx hb dX1_allBytesOfFiles_4 rfl (lv_at hl 0 rfl) ?_
    refine lv_sipush (v := 341) hx hb dX1_allBytesOfFiles_5 (by decide) ?_
    refine lv_icmp_ge (tgt := 25) hx hb dX1_allBytesOfFiles_8 (by decide) (fun c_1 => ?_) (fun c_1 => absurd (nI_le (a := 341) (b := 341) (Nat.le_refl _) (by omega)) c_1)
    refine lv_iload_n hx hb dX1_allBytesOfFiles_25 rfl (lv_at hl 1 rfl) ?_
    exact mt_ri S hr hk hW hS (by rw [c_X1_allBytesOfFiles]) (Nat.le_of_ble_eq_true rfl) (Nat.le_of_ble_eq_true rfl) dX1_allBytesOfFiles_26
  · have hW : mt_W g z (mt_wc g ad lc mc bc N G o d) ad _ := hW
    have hl : lv_has ls 3 [(2, .int (nI k)), (1, .int (c_X1_allBytesOfFiles_ln lc mc bc N G i k)), (0, .ref (ad (100 + i)))] := hl
    refine lv_iload_n hx hb dX1_allBytesOfFiles_4 rfl (lv_at hl 0 rfl) ?_
    refine lv_sipush (v := 341) hx hb dX1_allBytesOfFiles_5 (by decide) ?_
    refine lv_icmp_ge (tgt := 25) hx hb dX1_allBytesOfFiles_8 (by decide) (fun c_2 => absurd c_2 (nI_ge (a := k) (b := 341) hkn (by omega))) (fun c_2 => ?_)
    refine lv_iload_n hx hb dX1_allBytesOfFiles_11 rfl (lv_at hl 1 rfl) ?_
    refine lv_aload_n hx hb dX1_allBytesOfFiles_12 rfl (lv_at hl 2 rfl) ?_
    refine lv_iload_n hx hb dX1_allBytesOfFiles_13 rfl (lv_at hl 0 rfl) ?_
    refine mt_cV1 (As := [.int (nI k)]) (rest := [.int (c_X1_allBytesOfFiles_ln lc mc bc N G i k)]) S pv_X1_bytesAt mw_ml_X1_35 (k_X1_bytesAt l hlt g z ad lc mc bc N G o d h6 h8 hb6 i (nI k) hi) hC hW hS (wc_lay h6 hi) rfl rfl rfl hl.1 rfl (Nat.le_of_ble_eq_true rfl) dX1_allBytesOfFiles_14 ⟨(Nat.le_of_ble_eq_true rfl), (Nat.le_of_ble_eq_true rfl)⟩ ⟨(Nat.le_of_ble_eq_true rfl), (Nat.le_of_ble_eq_true rfl)⟩ rfl (fun H locs hW hS => ?_)
    refine lv_iadd hx hb dX1_allBytesOfFiles_17 ?_
    refine lv_istore_n (lv' := [(1, .int ((c_X1_allBytesOfFiles_ln lc mc bc N G i k) + (c_X1_bytesAt lc mc bc N G i (nI k)))), (2, .int (nI k)), (0, .ref (ad (100 + i)))]) hx hb dX1_allBytesOfFiles_18 rfl hl (by decide) rfl (fun ls hl => ?_)
    refine lv_iinc (v := nI (k + 1)) (lv' := [(2, .int (nI (k + 1))), (1, .int ((c_X1_allBytesOfFiles_ln lc mc bc N G i k) + (c_X1_bytesAt lc mc bc N G i (nI k)))), (0, .ref (ad (100 + i)))]) hx hb dX1_allBytesOfFiles_19 hl (k := 1) rfl (nI_1 _) (by decide) rfl (fun ls hl => ?_)
    refine lv_goto (tgt := 4) hx hb dX1_allBytesOfFiles_22 (by decide) ?_
    have hl : lv_has ls 3 [(2, .int (nI (k + 1))), (1, .int (c_X1_allBytesOfFiles_ln lc mc bc N G i (k + 1))), (0, .ref (ad (100 + i)))] := by rw [show c_X1_allBytesOfFiles_ln lc mc bc N G i (k + 1) = (c_X1_allBytesOfFiles_ln lc mc bc N G i k) + (c_X1_bytesAt lc mc bc N G i (nI k)) from (by rw [c_X1_allBytesOfFiles_ln])]; exact lv_sub hl [0, 1, 2] rfl
    exact ih _ _ _ trivial hW hS hl
def c_X1_forgetCounted_lG (lc mc bc : Nat) (N G : Nat → Nat → Int32) (i : Nat) : Nat → Nat → Nat → Int32
  | 0 => G
  | k + 1 => mt_gu (c_X1_forgetCounted_lG lc mc bc N G i k) (140 + i) k 0
def c_X1_forgetCounted_G (lc mc bc : Nat) (N G : Nat → Nat → Int32) (i : Nat) : Nat → Nat → Int32 := c_X1_forgetCounted_lG lc mc bc N G i 341
set_option maxRecDepth 100000 in
set_option maxHeartbeats 4000000 in
theorem k_X1_forgetCounted (l : Launch) (hlt : l.stackTraces = false) (g : mt_G) (z : Nat) (ad : Nat → Nat) (lc mc bc : Nat) (N G : Nat → Nat → Int32) (o : Nat → Int64) (d : Nat → UInt64) (h6 : lc ≤ 6) (h8 : mc ≤ 8) (hb6 : bc ≤ 6) (i : Nat) (hi : i < lc) : mt_K l g z yX1_forgetCounted cX1_forgetCounted 2 none 0 0 0 0 [.ref (ad (100 + i))] (mt_wc g ad lc mc bc N G o d) ad (.inr none) (mt_wc g ad lc mc bc N (c_X1_forgetCounted_G lc mc bc N G i) o d) ad := by
  refine mt_ofW (by decide +kernel) (Nat.le_of_ble_eq_true rfl) ?_
  intro p e s m args below meth c S hr hk hnm hout hC hW hS ls hl
  have hx := S.1
  have hb := S.2.1
  have hl : lv_has ls 2 [(0, .ref (ad (100 + i)))] := hl
  refine lv_iconst (v := 0) hx hb dX1_forgetCounted_0 (by decide) ?_
  refine lv_istore_n (lv' := [(1, .int (0)), (0, .ref (ad (100 + i)))]) hx hb dX1_forgetCounted_1 rfl hl (by decide) rfl (fun ls hl => ?_)
  have hl : lv_has ls 2 [(1, .int (nI 0)), (0, .ref (ad (100 + i)))] := lv_sub hl [0, 1] rfl
  have hW : mt_W g z (mt_wc g ad lc mc bc N (c_X1_forgetCounted_lG lc mc bc N G i 0) o d) ad _ := hW
  refine lp_up 341 (fun k => mt_wc g ad lc mc bc N (c_X1_forgetCounted_lG lc mc bc N G i k) o d) (fun k => [(1, .int (nI k)), (0, .ref (ad (100 + i)))]) (fun _ => True) 0 (by omega) trivial hW hS hl (fun H locs ls hP hW hS hl => ?_) (fun k H locs ls hk0 hkn hP hW hS hl ih => ?_)
  · have hW : mt_W g z (mt_wc g ad lc mc bc N (c_X1_forgetCounted_lG lc mc bc N G i 341) o d) ad _ := hW
    have hl : lv_has ls 2 [(1, .int (nI 341)), (0, .ref (ad (100 + i)))] := hl
    refine lv_iload_n hx hb dX1_forgetCounted_2 rfl (lv_at hl 0 rfl) ?_
    refine lv_sipush (v := 341) hx hb dX1_forgetCounted_3 (by decide) ?_
    refine lv_icmp_ge (tgt := 22) hx hb dX1_forgetCounted_6 (by decide) (fun c_1 => ?_) (fun c_1 => absurd (nI_le (a := 341) (b := 341) (Nat.le_refl _) (by omega)) c_1)
    have hW := hW.to (w1 := mt_wc g ad lc mc bc N (c_X1_forgetCounted_G lc mc bc N G i) o d) (by rw [c_X1_forgetCounted_G])
    exact mt_rv S hr hk hW hS rfl (Nat.le_of_ble_eq_true rfl) (Nat.le_of_ble_eq_true rfl) dX1_forgetCounted_22
  · have hW : mt_W g z (mt_wc g ad lc mc bc N (c_X1_forgetCounted_lG lc mc bc N G i k) o d) ad _ := hW
    have hl : lv_has ls 2 [(1, .int (nI k)), (0, .ref (ad (100 + i)))] := hl
    refine lv_iload_n hx hb dX1_forgetCounted_2 rfl (lv_at hl 0 rfl) ?_
    refine lv_sipush (v := 341) hx hb dX1_forgetCounted_3 (by decide) ?_
    refine lv_icmp_ge (tgt := 22) hx hb dX1_forgetCounted_6 (by decide) (fun c_2 => absurd c_2 (nI_ge (a := k) (b := 341) hkn (by omega))) (fun c_2 => ?_)
    refine lv_aload_n hx hb dX1_forgetCounted_9 rfl (lv_at hl 1 rfl) ?_
    refine mt_get S iw_X1 hC hW (wc_lay h6 hi) rfl 3 (by decide) mw_fl_X1_21 rfl rfl dX1_forgetCounted_10 ?_
    refine lv_iload_n hx hb dX1_forgetCounted_13 rfl (lv_at hl 0 rfl) ?_
    refine lv_iconst (v := 0) hx hb dX1_forgetCounted_14 (by decide) ?_
    refine wk_zasn S hC hW hS (ar_c h6 hi) k rfl (by omega) (by decide) rfl dX1_forgetCounted_15 (fun H locs hW hS => ?_)
    refine lv_iinc (v := nI (k + 1)) (lv' := [(1, .int (nI (k + 1))), (0, .ref (ad (100 + i)))]) hx hb dX1_forgetCounted_16 hl (k := 0) rfl (nI_1 _) (by decide) rfl (fun ls hl => ?_)
    refine lv_goto (tgt := 2) hx hb dX1_forgetCounted_19 (by decide) ?_
    have hW : mt_W g z (mt_wc g ad lc mc bc N (c_X1_forgetCounted_lG lc mc bc N G i (k + 1)) o d) ad _ := hW.to (by rw [show c_X1_forgetCounted_lG lc mc bc N G i (k + 1) = mt_gu (c_X1_forgetCounted_lG lc mc bc N G i k) (140 + i) k 0 from (by rw [c_X1_forgetCounted_lG])])
    have hl : lv_has ls 2 [(1, .int (nI (k + 1))), (0, .ref (ad (100 + i)))] := lv_sub hl [0, 1] rfl
    exact ih _ _ _ trivial hW hS hl
end
section
def c_X3_usedBy (lc mc bc : Nat) (N G : Nat → Nat → Int32) (x : Int32) : Int32 := if (c_X3_isOwner x) = 0 then 0 else (G 4 x.toNatClampNeg)
set_option maxRecDepth 100000 in
set_option maxHeartbeats 4000000 in
theorem k_X3_usedBy (l : Launch) (hlt : l.stackTraces = false) (g : mt_G) (z : Nat) (ad : Nat → Nat) (lc mc bc : Nat) (N G : Nat → Nat → Int32) (o : Nat → Int64) (d : Nat → UInt64) (h6 : lc ≤ 6) (h8 : mc ≤ 8) (hb6 : bc ≤ 6) (x : Int32)  : mt_K l g z yX3_usedBy cX3_usedBy 2 (some .int) 1 20 0 0 [.ref (ad (0)), .int x] (mt_wc g ad lc mc bc N G o d) ad (.inr (some (.int (c_X3_usedBy lc mc bc N G x)))) (mt_wc g ad lc mc bc N G o d) ad := by
  refine mt_ofW (by decide +kernel) (Nat.le_of_ble_eq_true rfl) ?_
  intro p e s m args below meth c S hr hk hnm hout hC hW hS ls hl
  have hx := S.1
  have hb := S.2.1
  have hl : lv_has ls 2 [(0, .ref (ad (0))), (1, .int (x))] := hl
  refine lv_iload_n hx hb dX3_usedBy_0 rfl (lv_at hl 1 rfl) ?_
  refine mt_cS1 (As := [.int (x)]) (rest := []) S ps_X3_isOwner mw_ml_X3_207 (k_X3_isOwner l hlt g z ad lc mc bc N G o d h6 h8 hb6 x) hC hW hS rfl hl.1 rfl (Nat.le_of_ble_eq_true rfl) dX3_usedBy_1 ⟨(Nat.le_of_ble_eq_true rfl), (Nat.le_of_ble_eq_true rfl)⟩ ⟨(Nat.le_of_ble_eq_true rfl), (Nat.le_of_ble_eq_true rfl)⟩ rfl (fun H locs hW hS => ?_)
  refine lv_if_eq (tgt := 16) hx hb dX3_usedBy_4 (by decide) (fun c_1 => ?_) (fun c_1 => ?_)
  · refine lv_iconst (v := 0) hx hb dX3_usedBy_16 (by decide) ?_
    exact mt_ri S hr hk hW hS (by rw [c_X3_usedBy, if_pos c_1]) (Nat.le_of_ble_eq_true rfl) (Nat.le_of_ble_eq_true rfl) dX3_usedBy_17
  · refine lv_aload_n hx hb dX3_usedBy_7 rfl (lv_at hl 0 rfl) ?_
    refine mt_get S iw_X3 hC hW wc_0 rfl 3 (by decide) mw_fl_X3_27 rfl rfl dX3_usedBy_8 ?_
    refine lv_iload_n hx hb dX3_usedBy_11 rfl (lv_at hl 1 rfl) ?_
    refine wk_iald S hC hW ar_4 (c_isOwner_in c_1) dX3_usedBy_12 ?_
    refine lv_goto (tgt := 17) hx hb dX3_usedBy_13 (by decide) ?_
    exact mt_ri S hr hk hW hS (by rw [c_X3_usedBy, if_neg c_1]) (Nat.le_of_ble_eq_true rfl) (Nat.le_of_ble_eq_true rfl) dX3_usedBy_17
def c_X3_quotaOf (lc mc bc : Nat) (N G : Nat → Nat → Int32) (x : Int32) : Int32 := if (c_X3_isOwner x) = 0 then 0 else (G 5 x.toNatClampNeg)
set_option maxRecDepth 100000 in
set_option maxHeartbeats 4000000 in
theorem k_X3_quotaOf (l : Launch) (hlt : l.stackTraces = false) (g : mt_G) (z : Nat) (ad : Nat → Nat) (lc mc bc : Nat) (N G : Nat → Nat → Int32) (o : Nat → Int64) (d : Nat → UInt64) (h6 : lc ≤ 6) (h8 : mc ≤ 8) (hb6 : bc ≤ 6) (x : Int32)  : mt_K l g z yX3_quotaOf cX3_quotaOf 2 (some .int) 1 20 0 0 [.ref (ad (0)), .int x] (mt_wc g ad lc mc bc N G o d) ad (.inr (some (.int (c_X3_quotaOf lc mc bc N G x)))) (mt_wc g ad lc mc bc N G o d) ad := by
  refine mt_ofW (by decide +kernel) (Nat.le_of_ble_eq_true rfl) ?_
  intro p e s m args below meth c S hr hk hnm hout hC hW hS ls hl
  have hx := S.1
  have hb := S.2.1
  have hl : lv_has ls 2 [(0, .ref (ad (0))), (1, .int (x))] := hl
  refine lv_iload_n hx hb dX3_quotaOf_0 rfl (lv_at hl 1 rfl) ?_
  refine mt_cS1 (As := [.int (x)]) (rest := []) S ps_X3_isOwner mw_ml_X3_207 (k_X3_isOwner l hlt g z ad lc mc bc N G o d h6 h8 hb6 x) hC hW hS rfl hl.1 rfl (Nat.le_of_ble_eq_true rfl) dX3_quotaOf_1 ⟨(Nat.le_of_ble_eq_true rfl), (Nat.le_of_ble_eq_true rfl)⟩ ⟨(Nat.le_of_ble_eq_true rfl), (Nat.le_of_ble_eq_true rfl)⟩ rfl (fun H locs hW hS => ?_)
  refine lv_if_eq (tgt := 16) hx hb dX3_quotaOf_4 (by decide) (fun c_1 => ?_) (fun c_1 => ?_)
  · refine lv_iconst (v := 0) hx hb dX3_quotaOf_16 (by decide) ?_
    exact mt_ri S hr hk hW hS (by rw [c_X3_quotaOf, if_pos c_1]) (Nat.le_of_ble_eq_true rfl) (Nat.le_of_ble_eq_true rfl) dX3_quotaOf_17
  · refine lv_aload_n hx hb dX3_quotaOf_7 rfl (lv_at hl 0 rfl) ?_
    refine mt_get S iw_X3 hC hW wc_0 rfl 4 (by decide) mw_fl_X3_31 rfl rfl dX3_quotaOf_8 ?_
    refine lv_iload_n hx hb dX3_quotaOf_11 rfl (lv_at hl 1 rfl) ?_
    refine wk_iald S hC hW ar_5 (c_isOwner_in c_1) dX3_quotaOf_12 ?_
    refine lv_goto (tgt := 17) hx hb dX3_quotaOf_13 (by decide) ?_
    exact mt_ri S hr hk hW hS (by rw [c_X3_quotaOf, if_neg c_1]) (Nat.le_of_ble_eq_true rfl) (Nat.le_of_ble_eq_true rfl) dX3_quotaOf_17
def c_X3_use_G (lc mc bc : Nat) (N G : Nat → Nat → Int32) (x : Int32) (v : Int32) : Nat → Nat → Int32 := if (c_X3_isOwner x) = 0 then G else (mt_gu G 4 x.toNatClampNeg ((G 4 x.toNatClampNeg) + v))
set_option maxRecDepth 100000 in
set_option maxHeartbeats 4000000 in
theorem k_X3_use (l : Launch) (hlt : l.stackTraces = false) (g : mt_G) (z : Nat) (ad : Nat → Nat) (lc mc bc : Nat) (N G : Nat → Nat → Int32) (o : Nat → Int64) (d : Nat → UInt64) (h6 : lc ≤ 6) (h8 : mc ≤ 8) (hb6 : bc ≤ 6) (x : Int32) (v : Int32)  : mt_K l g z yX3_use cX3_use 3 none 1 20 0 0 [.ref (ad (0)), .int x, .int v] (mt_wc g ad lc mc bc N G o d) ad (.inr none) (mt_wc g ad lc mc bc N (c_X3_use_G lc mc bc N G x v) o d) ad := by
  refine mt_ofW (by decide +kernel) (Nat.le_of_ble_eq_true rfl) ?_
  intro p e s m args below meth c S hr hk hnm hout hC hW hS ls hl
  have hx := S.1
  have hb := S.2.1
  have hl : lv_has ls 3 [(0, .ref (ad (0))), (1, .int (x)), (2, .int (v))] := hl
  refine lv_iload_n hx hb dX3_use_0 rfl (lv_at hl 1 rfl) ?_
  refine mt_cS1 (As := [.int (x)]) (rest := []) S ps_X3_isOwner mw_ml_X3_207 (k_X3_isOwner l hlt g z ad lc mc bc N G o d h6 h8 hb6 x) hC hW hS rfl hl.1 rfl (Nat.le_of_ble_eq_true rfl) dX3_use_1 ⟨(Nat.le_of_ble_eq_true rfl), (Nat.le_of_ble_eq_true rfl)⟩ ⟨(Nat.le_of_ble_eq_true rfl), (Nat.le_of_ble_eq_true rfl)⟩ rfl (fun H locs hW hS => ?_)
  refine lv_if_eq (tgt := 17) hx hb dX3_use_4 (by decide) (fun c_1 => ?_) (fun c_1 => ?_)
  · have hW := hW.to (w1 := mt_wc g ad lc mc bc N (c_X3_use_G lc mc bc N G x v) o d) (by rw [c_X3_use_G, if_pos c_1])
    exact mt_rv S hr hk hW hS rfl (Nat.le_of_ble_eq_true rfl) (Nat.le_of_ble_eq_true rfl) dX3_use_17
  · refine lv_aload_n hx hb dX3_use_7 rfl (lv_at hl 0 rfl) ?_
    refine mt_get S iw_X3 hC hW wc_0 rfl 3 (by decide) mw_fl_X3_27 rfl rfl dX3_use_8 ?_
    refine lv_iload_n hx hb dX3_use_11 rfl (lv_at hl 1 rfl) ?_
    refine lv_dup2_11 hx hb dX3_use_12 rfl rfl ?_
    refine wk_iald S hC hW ar_4 (c_isOwner_in c_1) dX3_use_13 ?_
    refine lv_iload_n hx hb dX3_use_14 rfl (lv_at hl 2 rfl) ?_
    refine lv_iadd hx hb dX3_use_15 ?_
    refine wk_iast S hC hW hS ar_4 (c_isOwner_in c_1) dX3_use_16 (fun H locs hW hS => ?_)
    have hW := hW.to (w1 := mt_wc g ad lc mc bc N (c_X3_use_G lc mc bc N G x v) o d) (by rw [c_X3_use_G, if_neg c_1])
    exact mt_rv S hr hk hW hS rfl (Nat.le_of_ble_eq_true rfl) (Nat.le_of_ble_eq_true rfl) dX3_use_17
def c_X3_serverAt (lc mc bc : Nat) (N G : Nat → Nat → Int32) (x : Int32) : Int32 := if (c_X3_isPlace x) = 0 then (-1) else (G 6 x.toNatClampNeg)
set_option maxRecDepth 100000 in
set_option maxHeartbeats 4000000 in
theorem k_X3_serverAt (l : Launch) (hlt : l.stackTraces = false) (g : mt_G) (z : Nat) (ad : Nat → Nat) (lc mc bc : Nat) (N G : Nat → Nat → Int32) (o : Nat → Int64) (d : Nat → UInt64) (h6 : lc ≤ 6) (h8 : mc ≤ 8) (hb6 : bc ≤ 6) (x : Int32)  : mt_K l g z yX3_serverAt cX3_serverAt 2 (some .int) 1 20 0 0 [.ref (ad (0)), .int x] (mt_wc g ad lc mc bc N G o d) ad (.inr (some (.int (c_X3_serverAt lc mc bc N G x)))) (mt_wc g ad lc mc bc N G o d) ad := by
  refine mt_ofW (by decide +kernel) (Nat.le_of_ble_eq_true rfl) ?_
  intro p e s m args below meth c S hr hk hnm hout hC hW hS ls hl
  have hx := S.1
  have hb := S.2.1
  have hl : lv_has ls 2 [(0, .ref (ad (0))), (1, .int (x))] := hl
  refine lv_iload_n hx hb dX3_serverAt_0 rfl (lv_at hl 1 rfl) ?_
  refine mt_cS1 (As := [.int (x)]) (rest := []) S ps_X3_isPlace mw_ml_X3_272 (k_X3_isPlace l hlt g z ad lc mc bc N G o d h6 h8 hb6 x) hC hW hS rfl hl.1 rfl (Nat.le_of_ble_eq_true rfl) dX3_serverAt_1 ⟨(Nat.le_of_ble_eq_true rfl), (Nat.le_of_ble_eq_true rfl)⟩ ⟨(Nat.le_of_ble_eq_true rfl), (Nat.le_of_ble_eq_true rfl)⟩ rfl (fun H locs hW hS => ?_)
  refine lv_if_eq (tgt := 16) hx hb dX3_serverAt_4 (by decide) (fun c_1 => ?_) (fun c_1 => ?_)
  · refine lv_iconst (v := -1) hx hb dX3_serverAt_16 (by decide) ?_
    exact mt_ri S hr hk hW hS (by rw [c_X3_serverAt, if_pos c_1]) (Nat.le_of_ble_eq_true rfl) (Nat.le_of_ble_eq_true rfl) dX3_serverAt_17
  · refine lv_aload_n hx hb dX3_serverAt_7 rfl (lv_at hl 0 rfl) ?_
    refine mt_get S iw_X3 hC hW wc_0 rfl 5 (by decide) mw_fl_X3_34 rfl rfl dX3_serverAt_8 ?_
    refine lv_iload_n hx hb dX3_serverAt_11 rfl (lv_at hl 1 rfl) ?_
    refine wk_iald S hC hW ar_6 (c_isPlace_in c_1) dX3_serverAt_12 ?_
    refine lv_goto (tgt := 17) hx hb dX3_serverAt_13 (by decide) ?_
    exact mt_ri S hr hk hW hS (by rw [c_X3_serverAt, if_neg c_1]) (Nat.le_of_ble_eq_true rfl) (Nat.le_of_ble_eq_true rfl) dX3_serverAt_17
def c_X3_restAt (lc mc bc : Nat) (N G : Nat → Nat → Int32) (x : Int32) : Int32 := if (c_X3_isPlace x) = 0 then 0 else (G 7 x.toNatClampNeg)
set_option maxRecDepth 100000 in
set_option maxHeartbeats 4000000 in
theorem k_X3_restAt (l : Launch) (hlt : l.stackTraces = false) (g : mt_G) (z : Nat) (ad : Nat → Nat) (lc mc bc : Nat) (N G : Nat → Nat → Int32) (o : Nat → Int64) (d : Nat → UInt64) (h6 : lc ≤ 6) (h8 : mc ≤ 8) (hb6 : bc ≤ 6) (x : Int32)  : mt_K l g z yX3_restAt cX3_restAt 2 (some .int) 1 20 0 0 [.ref (ad (0)), .int x] (mt_wc g ad lc mc bc N G o d) ad (.inr (some (.int (c_X3_restAt lc mc bc N G x)))) (mt_wc g ad lc mc bc N G o d) ad := by
  refine mt_ofW (by decide +kernel) (Nat.le_of_ble_eq_true rfl) ?_
  intro p e s m args below meth c S hr hk hnm hout hC hW hS ls hl
  have hx := S.1
  have hb := S.2.1
  have hl : lv_has ls 2 [(0, .ref (ad (0))), (1, .int (x))] := hl
  refine lv_iload_n hx hb dX3_restAt_0 rfl (lv_at hl 1 rfl) ?_
  refine mt_cS1 (As := [.int (x)]) (rest := []) S ps_X3_isPlace mw_ml_X3_272 (k_X3_isPlace l hlt g z ad lc mc bc N G o d h6 h8 hb6 x) hC hW hS rfl hl.1 rfl (Nat.le_of_ble_eq_true rfl) dX3_restAt_1 ⟨(Nat.le_of_ble_eq_true rfl), (Nat.le_of_ble_eq_true rfl)⟩ ⟨(Nat.le_of_ble_eq_true rfl), (Nat.le_of_ble_eq_true rfl)⟩ rfl (fun H locs hW hS => ?_)
  refine lv_if_eq (tgt := 16) hx hb dX3_restAt_4 (by decide) (fun c_1 => ?_) (fun c_1 => ?_)
  · refine lv_iconst (v := 0) hx hb dX3_restAt_16 (by decide) ?_
    exact mt_ri S hr hk hW hS (by rw [c_X3_restAt, if_pos c_1]) (Nat.le_of_ble_eq_true rfl) (Nat.le_of_ble_eq_true rfl) dX3_restAt_17
  · refine lv_aload_n hx hb dX3_restAt_7 rfl (lv_at hl 0 rfl) ?_
    refine mt_get S iw_X3 hC hW wc_0 rfl 6 (by decide) mw_fl_X3_37 rfl rfl dX3_restAt_8 ?_
    refine lv_iload_n hx hb dX3_restAt_11 rfl (lv_at hl 1 rfl) ?_
    refine wk_iald S hC hW ar_7 (c_isPlace_in c_1) dX3_restAt_12 ?_
    refine lv_goto (tgt := 17) hx hb dX3_restAt_13 (by decide) ?_
    exact mt_ri S hr hk hW hS (by rw [c_X3_restAt, if_neg c_1]) (Nat.le_of_ble_eq_true rfl) (Nat.le_of_ble_eq_true rfl) dX3_restAt_17
def c_X3_layerAt (lc mc bc : Nat) (N G : Nat → Nat → Int32) (x : Int32) : Option Nat := if x < 0 then none else (if 6 ≤ x then none else (if x.toNatClampNeg < lc then (some x.toNatClampNeg) else none))
set_option maxRecDepth 100000 in
set_option maxHeartbeats 4000000 in
theorem k_X3_layerAt (l : Launch) (hlt : l.stackTraces = false) (g : mt_G) (z : Nat) (ad : Nat → Nat) (lc mc bc : Nat) (N G : Nat → Nat → Int32) (o : Nat → Int64) (d : Nat → UInt64) (h6 : lc ≤ 6) (h8 : mc ≤ 8) (hb6 : bc ≤ 6) (x : Int32)  : mt_K l g z yX3_layerAt cX3_layerAt 2 (some (.object "MountTable$Layer")) 0 0 0 0 [.ref (ad (0)), .int x] (mt_wc g ad lc mc bc N G o d) ad (xr_a ad 100 (c_X3_layerAt lc mc bc N G x)) (mt_wc g ad lc mc bc N G o d) ad := by
  refine mt_ofW (by decide +kernel) (Nat.le_of_ble_eq_true rfl) ?_
  intro p e s m args below meth c S hr hk hnm hout hC hW hS ls hl
  have hx := S.1
  have hb := S.2.1
  have hl : lv_has ls 2 [(0, .ref (ad (0))), (1, .int (x))] := hl
  refine lv_iload_n hx hb dX3_layerAt_0 rfl (lv_at hl 1 rfl) ?_
  refine lv_if_lt (tgt := 22) hx hb dX3_layerAt_1 (by decide) (fun c_1 => ?_) (fun c_1 => ?_)
  · refine lv_null hx hb dX3_layerAt_22 ?_
    exact mt_ra S hr hk (Or.inl rfl) hW hS (congrArg (a₂ := none) (xr_a ad 100) (by rw [c_X3_layerAt, if_pos c_1])) (Nat.le_of_ble_eq_true rfl) (Nat.le_of_ble_eq_true rfl) dX3_layerAt_23
  · refine lv_iload_n hx hb dX3_layerAt_4 rfl (lv_at hl 1 rfl) ?_
    refine lv_aload_n hx hb dX3_layerAt_5 rfl (lv_at hl 0 rfl) ?_
    refine mt_get S iw_X3 hC hW wc_0 rfl 0 (by decide) mw_fl_X3_11 rfl rfl dX3_layerAt_6 ?_
    refine mt_alen S hC hW 2 rfl wc_1 (v := 6) rfl dX3_layerAt_9 ?_
    refine lv_icmp_ge (tgt := 22) hx hb dX3_layerAt_10 (by decide) (fun c_2 => ?_) (fun c_2 => ?_)
    · refine lv_null hx hb dX3_layerAt_22 ?_
      exact mt_ra S hr hk (Or.inl rfl) hW hS (congrArg (a₂ := none) (xr_a ad 100) (by rw [c_X3_layerAt, if_neg c_1, if_pos c_2])) (Nat.le_of_ble_eq_true rfl) (Nat.le_of_ble_eq_true rfl) dX3_layerAt_23
    · refine lv_aload_n hx hb dX3_layerAt_13 rfl (lv_at hl 0 rfl) ?_
      refine mt_get S iw_X3 hC hW wc_0 rfl 0 (by decide) mw_fl_X3_11 rfl rfl dX3_layerAt_14 ?_
      refine lv_iload_n hx hb dX3_layerAt_17 rfl (lv_at hl 1 rfl) ?_
      refine wk_aald S hC hW 2 rfl wc_1 (vin (n := 6) c_1 c_2) dX3_layerAt_18 (fun hm_3 => ?_) (fun hm_3 => ?_)
      · refine lv_goto (tgt := 23) hx hb dX3_layerAt_19 (by decide) ?_
        exact mt_ra S hr hk (Or.inr ⟨_, rfl⟩) hW hS (congrArg (a₂ := (some x.toNatClampNeg)) (xr_a ad 100) (by rw [c_X3_layerAt, if_neg c_1, if_neg c_2, if_pos hm_3])) (Nat.le_of_ble_eq_true rfl) (Nat.le_of_ble_eq_true rfl) dX3_layerAt_23
      · refine lv_goto (tgt := 23) hx hb dX3_layerAt_19 (by decide) ?_
        exact mt_ra S hr hk (Or.inl rfl) hW hS (congrArg (a₂ := none) (xr_a ad 100) (by rw [c_X3_layerAt, if_neg c_1, if_neg c_2, if_neg hm_3])) (Nat.le_of_ble_eq_true rfl) (Nat.le_of_ble_eq_true rfl) dX3_layerAt_23
theorem c_layerAt_lt {lc mc bc : Nat} {N G : Nat → Nat → Int32} {x : Int32} {i : Nat} (h : c_X3_layerAt lc mc bc N G x = some i) : i < lc := by
  unfold c_X3_layerAt at h
  repeat' split at h
  all_goals first | (cases h; done) | (cases h; assumption)
def c_X3_mountThere (lc mc bc : Nat) (N G : Nat → Nat → Int32) (x : Int32) : Option Nat := if x < 0 then none else (if x < 8 then (if x.toNatClampNeg < mc then (if (N (150 + x.toNatClampNeg) 3) = 0 then none else (some x.toNatClampNeg)) else none) else none)
set_option maxRecDepth 100000 in
set_option maxHeartbeats 4000000 in
theorem k_X3_mountThere (l : Launch) (hlt : l.stackTraces = false) (g : mt_G) (z : Nat) (ad : Nat → Nat) (lc mc bc : Nat) (N G : Nat → Nat → Int32) (o : Nat → Int64) (d : Nat → UInt64) (h6 : lc ≤ 6) (h8 : mc ≤ 8) (hb6 : bc ≤ 6) (x : Int32)  : mt_K l g z yX3_mountThere cX3_mountThere 3 (some (.object "MountTable$Mount")) 0 0 0 0 [.ref (ad (0)), .int x] (mt_wc g ad lc mc bc N G o d) ad (xr_a ad 150 (c_X3_mountThere lc mc bc N G x)) (mt_wc g ad lc mc bc N G o d) ad := by
  refine mt_ofW (by decide +kernel) (Nat.le_of_ble_eq_true rfl) ?_
  intro p e s m args below meth c S hr hk hnm hout hC hW hS ls hl
  have hx := S.1
  have hb := S.2.1
  have hl : lv_has ls 3 [(0, .ref (ad (0))), (1, .int (x))] := hl
  refine lv_iload_n hx hb dX3_mountThere_0 rfl (lv_at hl 1 rfl) ?_
  refine lv_if_lt (tgt := 13) hx hb dX3_mountThere_1 (by decide) (fun c_1 => ?_) (fun c_1 => ?_)
  · refine lv_null hx hb dX3_mountThere_13 ?_
    exact mt_ra S hr hk (Or.inl rfl) hW hS (congrArg (a₂ := none) (xr_a ad 150) (by rw [c_X3_mountThere, if_pos c_1])) (Nat.le_of_ble_eq_true rfl) (Nat.le_of_ble_eq_true rfl) dX3_mountThere_14
  · refine lv_iload_n hx hb dX3_mountThere_4 rfl (lv_at hl 1 rfl) ?_
    refine lv_aload_n hx hb dX3_mountThere_5 rfl (lv_at hl 0 rfl) ?_
    refine mt_get S iw_X3 hC hW wc_0 rfl 1 (by decide) mw_fl_X3_17 rfl rfl dX3_mountThere_6 ?_
    refine mt_alen S hC hW 3 rfl wc_2 (v := 8) rfl dX3_mountThere_9 ?_
    refine lv_icmp_lt (tgt := 15) hx hb dX3_mountThere_10 (by decide) (fun c_2 => ?_) (fun c_2 => ?_)
    · refine lv_aload_n hx hb dX3_mountThere_15 rfl (lv_at hl 0 rfl) ?_
      refine mt_get S iw_X3 hC hW wc_0 rfl 1 (by decide) mw_fl_X3_17 rfl rfl dX3_mountThere_16 ?_
      refine lv_iload_n hx hb dX3_mountThere_19 rfl (lv_at hl 1 rfl) ?_
      refine wk_aald S hC hW 3 rfl wc_2 (vin' (n := 8) c_1 c_2) dX3_mountThere_20 (fun hm_3 => ?_) (fun hm_3 => ?_)
      · refine lv_astore_n (lv' := [(2, .ref (ad (150 + x.toNatClampNeg))), (0, .ref (ad (0))), (1, .int (x))]) hx hb dX3_mountThere_21 rfl hl (by decide) rfl (fun ls hl => ?_)
        refine lv_aload_n hx hb dX3_mountThere_22 rfl (lv_at hl 0 rfl) ?_
        refine lv_ifnull hx hb dX3_mountThere_23 ?_
        refine lv_aload_n hx hb dX3_mountThere_26 rfl (lv_at hl 0 rfl) ?_
        refine mt_getN S iw_X2 hC hW (wc_mnt h8 hm_3) rfl 3 (by decide) mw_fn_X3_97 rfl rfl dX3_mountThere_27 ?_
        refine lv_if_eq (tgt := 37) hx hb dX3_mountThere_30 (by decide) (fun c_4 => ?_) (fun c_4 => ?_)
        · refine lv_null hx hb dX3_mountThere_37 ?_
          exact mt_ra S hr hk (Or.inl rfl) hW hS (congrArg (a₂ := none) (xr_a ad 150) (by rw [c_X3_mountThere, if_neg c_1, if_pos c_2, if_pos hm_3, if_pos c_4])) (Nat.le_of_ble_eq_true rfl) (Nat.le_of_ble_eq_true rfl) dX3_mountThere_38
        · refine lv_aload_n hx hb dX3_mountThere_33 rfl (lv_at hl 0 rfl) ?_
          refine lv_goto (tgt := 38) hx hb dX3_mountThere_34 (by decide) ?_
          exact mt_ra S hr hk (Or.inr ⟨_, rfl⟩) hW hS (congrArg (a₂ := (some x.toNatClampNeg)) (xr_a ad 150) (by rw [c_X3_mountThere, if_neg c_1, if_pos c_2, if_pos hm_3, if_neg c_4])) (Nat.le_of_ble_eq_true rfl) (Nat.le_of_ble_eq_true rfl) dX3_mountThere_38
      · refine lv_astore_nN (lv' := [(2, .null), (0, .ref (ad (0))), (1, .int (x))]) hx hb dX3_mountThere_21 rfl hl (by decide) rfl (fun ls hl => ?_)
        refine lv_aload_nN hx hb dX3_mountThere_22 rfl (lv_at hl 0 rfl) ?_
        refine lv_ifnullN (tgt := 37) hx hb dX3_mountThere_23 (by decide) ?_
        refine lv_null hx hb dX3_mountThere_37 ?_
        exact mt_ra S hr hk (Or.inl rfl) hW hS (congrArg (a₂ := none) (xr_a ad 150) (by rw [c_X3_mountThere, if_neg c_1, if_pos c_2, if_neg hm_3])) (Nat.le_of_ble_eq_true rfl) (Nat.le_of_ble_eq_true rfl) dX3_mountThere_38
    · refine lv_null hx hb dX3_mountThere_13 ?_
      exact mt_ra S hr hk (Or.inl rfl) hW hS (congrArg (a₂ := none) (xr_a ad 150) (by rw [c_X3_mountThere, if_neg c_1, if_neg c_2])) (Nat.le_of_ble_eq_true rfl) (Nat.le_of_ble_eq_true rfl) dX3_mountThere_14
theorem c_mountThere_lt {lc mc bc : Nat} {N G : Nat → Nat → Int32} {x : Int32} {i : Nat} (h : c_X3_mountThere lc mc bc N G x = some i) : i < mc := by
  unfold c_X3_mountThere at h
  repeat' split at h
  all_goals first | (cases h; done) | (cases h; assumption)
def c_X3_checkOwner (x : Int32) : String ⊕ Unit := if (c_X3_isOwner x) = 0 then (.inl "java/lang/IllegalArgumentException") else (.inr ())
set_option maxRecDepth 100000 in
set_option maxHeartbeats 4000000 in
theorem k_X3_checkOwner (l : Launch) (hlt : l.stackTraces = false) (g : mt_G) (z : Nat) (ad : Nat → Nat) (lc mc bc : Nat) (N G : Nat → Nat → Int32) (o : Nat → Int64) (d : Nat → UInt64) (h6 : lc ≤ 6) (h8 : mc ≤ 8) (hb6 : bc ≤ 6) (x : Int32)  : mt_K l g z yX3_checkOwner cX3_checkOwner 1 none 6 82 1 6 [.int x] (mt_wc g ad lc mc bc N G o d) ad (xr_u (c_X3_checkOwner x)) (mt_wc g ad lc mc bc N G o d) ad := by
  refine mt_ofW (by decide +kernel) (Nat.le_of_ble_eq_true rfl) ?_
  intro p e s m args below meth c S hr hk hnm hout hC hW hS ls hl
  have hx := S.1
  have hb := S.2.1
  have hl : lv_has ls 1 [(0, .int (x))] := hl
  refine lv_iload_n hx hb dX3_checkOwner_0 rfl (lv_at hl 0 rfl) ?_
  refine mt_cS1 (As := [.int (x)]) (rest := []) S ps_X3_isOwner mw_ml_X3_207 (k_X3_isOwner l hlt g z ad lc mc bc N G o d h6 h8 hb6 x) hC hW hS rfl hl.1 rfl (Nat.le_of_ble_eq_true rfl) dX3_checkOwner_1 ⟨(Nat.le_of_ble_eq_true rfl), (Nat.le_of_ble_eq_true rfl)⟩ ⟨(Nat.le_of_ble_eq_true rfl), (Nat.le_of_ble_eq_true rfl)⟩ rfl (fun H locs hW hS => ?_)
  refine lv_if_ne (tgt := 18) hx hb dX3_checkOwner_4 (by decide) (fun c_1 => ?_) (fun c_1 => ?_)
  · exact mt_rv S hr hk hW hS (congrArg (a₂ := .inr ()) xr_u (by rw [c_X3_checkOwner, if_neg c_1])) (Nat.le_of_ble_eq_true rfl) (Nat.le_of_ble_eq_true rfl) dX3_checkOwner_18
  · exact mt_throwW S hlt mp_IAE (List.mem_of_getElem? (i := 8) rfl) hC hW hS hl.1 hout hk (congrArg (a₂ := .inl "java/lang/IllegalArgumentException") xr_u (by rw [c_X3_checkOwner, if_pos c_1])) dX3_checkOwner_7 dX3_checkOwner_10 dX3_checkOwner_11 dX3_checkOwner_14 dX3_checkOwner_17 (Nat.le_of_ble_eq_true rfl) (Nat.le_of_ble_eq_true rfl) ⟨(Nat.le_of_ble_eq_true rfl), (Nat.le_of_ble_eq_true rfl)⟩ (Nat.le_of_ble_eq_true rfl) (Nat.le_of_ble_eq_true rfl)
end

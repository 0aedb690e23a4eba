def mt_T : List Cond := lw_tbl.filter goodWord
theorem mt_ms {w : Cond} (i : Nat) (h : (k2_sels lw_privs)[i]? = some w) (hg : goodWord w = true) : w ∈ mt_T := List.mem_filter.mpr ⟨List.mem_append_left _ (List.mem_of_getElem? h), hg⟩
def mt_bk : Cond → Bool := fun w => match w with | .castable .. => true | .declares _ => true | .fieldLinkNest .. => true | .methodLinkNest .. => true | _ => false
def mt_bw : List Cond := tables_1.filter mt_bk
theorem mt_l1 {w : Cond} (i : Nat) (h9 : tables_1_1[i]? = some w) : w ∈ tables_1 := by have h := List.mem_of_getElem? h9; exact (show w ∈ tables_1 from List.mem_append_left _ h)
theorem mt_m1 {w : Cond} (i : Nat) (h : tables_1_1[i]? = some w) (hg : goodWord w = true) : w ∈ mt_T := List.mem_filter.mpr ⟨List.mem_append_right _ (mt_l1 i h), hg⟩
theorem mt_b1 {w : Cond} (i : Nat) (h : tables_1_1[i]? = some w) (hg : mt_bk w = true) : w ∈ mt_bw := List.mem_filter.mpr ⟨mt_l1 i h, hg⟩
theorem mt_l2 {w : Cond} (i : Nat) (h9 : tables_1_2[i]? = some w) : w ∈ tables_1 := by have h := List.mem_of_getElem? h9; exact (show w ∈ tables_1 from List.mem_append_right _ (List.mem_append_left _ h))
theorem mt_m2 {w : Cond} (i : Nat) (h : tables_1_2[i]? = some w) (hg : goodWord w = true) : w ∈ mt_T := List.mem_filter.mpr ⟨List.mem_append_right _ (mt_l2 i h), hg⟩
theorem mt_b2 {w : Cond} (i : Nat) (h : tables_1_2[i]? = some w) (hg : mt_bk w = true) : w ∈ mt_bw := List.mem_filter.mpr ⟨mt_l2 i h, hg⟩
theorem mt_l3 {w : Cond} (i : Nat) (h9 : tables_1_3[i]? = some w) : w ∈ tables_1 := by have h := List.mem_of_getElem? h9; exact (show w ∈ tables_1 from List.mem_append_right _ (List.mem_append_right _ (List.mem_append_left _ h)))
theorem mt_m3 {w : Cond} (i : Nat) (h : tables_1_3[i]? = some w) (hg : goodWord w = true) : w ∈ mt_T := List.mem_filter.mpr ⟨List.mem_append_right _ (mt_l3 i h), hg⟩
theorem mt_b3 {w : Cond} (i : Nat) (h : tables_1_3[i]? = some w) (hg : mt_bk w = true) : w ∈ mt_bw := List.mem_filter.mpr ⟨mt_l3 i h, hg⟩
theorem mt_l4 {w : Cond} (i : Nat) (h9 : tables_1_4[i]? = some w) : w ∈ tables_1 := by have h := List.mem_of_getElem? h9; exact (show w ∈ tables_1 from List.mem_append_right _ (List.mem_append_right _ (List.mem_append_right _ (List.mem_append_left _ h))))
theorem mt_m4 {w : Cond} (i : Nat) (h : tables_1_4[i]? = some w) (hg : goodWord w = true) : w ∈ mt_T := List.mem_filter.mpr ⟨List.mem_append_right _ (mt_l4 i h), hg⟩
theorem mt_b4 {w : Cond} (i : Nat) (h : tables_1_4[i]? = some w) (hg : mt_bk w = true) : w ∈ mt_bw := List.mem_filter.mpr ⟨mt_l4 i h, hg⟩
theorem mt_l5 {w : Cond} (i : Nat) (h9 : tables_1_5[i]? = some w) : w ∈ tables_1 := by have h := List.mem_of_getElem? h9; exact (show w ∈ tables_1 from List.mem_append_right _ (List.mem_append_right _ (List.mem_append_right _ (List.mem_append_right _ h))))
theorem mt_m5 {w : Cond} (i : Nat) (h : tables_1_5[i]? = some w) (hg : goodWord w = true) : w ∈ mt_T := List.mem_filter.mpr ⟨List.mem_append_right _ (mt_l5 i h), hg⟩
theorem mt_b5 {w : Cond} (i : Nat) (h : tables_1_5[i]? = some w) (hg : mt_bk w = true) : w ∈ mt_bw := List.mem_filter.mpr ⟨mt_l5 i h, hg⟩
def mt_strs : List (String × Nat × String) := [("MountTable", 46, "there are as many layers as can be"), ("MountTable", 58, "the point is no path, or both layers are the same"), ("MountTable", 67, "there is no such layer"), ("MountTable", 79, "a layer is in a mount that is there"), ("MountTable", 85, "as many mounts were made as can be"), ("MountTable", 264, "there is no such mount"), ("MountTable", 260, "the number is no path"), ("MountTable", 118, "no mount serves the path"), ("MountTable", 262, "the owner is out of range"), ("MountTable", 125, "the size is out of range"), ("MountTable", 298, "no mount serves the path, or its rest is empty"), ("MountTable", 143, "the owner would use more than the quota"), ("MountTable", 181, "the path shows nothing"), ("MountTable", 294, "the mount of a link is not crossing"), ("MountTable", 296, "the path leads over too many links"), ("MountTable", 189, "the path ends at one that shows nothing"), ("MountTable", 205, "the quota is out of range"), ("MountTable", 228, "there are as many backups as can be"), ("MountTable", 266, "there is no such backup"), ("MountTable", 252, "all files together have no bytes"), ("MountTable", 255, "the layer has no files")]
def mt_nc : List (String × String) := [("MountTable", "java/lang/ArithmeticException"), ("MountTable", "java/lang/IllegalArgumentException"), ("MountTable", "java/lang/IllegalStateException"), ("MountTable", "java/lang/IndexOutOfBoundsException"), ("MountTable", "java/lang/UnsupportedOperationException"), ("MountTable", "java/util/NoSuchElementException"), ("MountTable$Backup", "java/lang/ArithmeticException"), ("MountTable$Backup", "java/lang/IllegalArgumentException"), ("MountTable$Backup", "java/lang/IllegalStateException"), ("MountTable$Backup", "java/lang/IndexOutOfBoundsException"), ("MountTable$Backup", "java/lang/UnsupportedOperationException"), ("MountTable$Backup", "java/util/NoSuchElementException"), ("MountTable$Layer", "java/lang/ArithmeticException"), ("MountTable$Layer", "java/lang/IllegalArgumentException"), ("MountTable$Layer", "java/lang/IllegalStateException"), ("MountTable$Layer", "java/lang/IndexOutOfBoundsException"), ("MountTable$Layer", "java/lang/UnsupportedOperationException"), ("MountTable$Layer", "java/util/NoSuchElementException"), ("MountTable$Mount", "java/lang/ArithmeticException"), ("MountTable$Mount", "java/lang/IllegalArgumentException"), ("MountTable$Mount", "java/lang/IllegalStateException"), ("MountTable$Mount", "java/lang/IndexOutOfBoundsException"), ("MountTable$Mount", "java/lang/UnsupportedOperationException"), ("MountTable$Mount", "java/util/NoSuchElementException"), ("MountTableModel", "java/lang/ArithmeticException"), ("MountTableModel", "java/lang/IllegalArgumentException"), ("MountTableModel", "java/lang/IllegalStateException"), ("MountTableModel", "java/lang/IndexOutOfBoundsException"), ("MountTableModel", "java/lang/UnsupportedOperationException"), ("MountTableModel", "java/util/NoSuchElementException"), ("java/lang/ArithmeticException", "java/lang/IllegalArgumentException"), ("java/lang/ArithmeticException", "java/lang/IllegalStateException"), ("java/lang/ArithmeticException", "java/lang/IndexOutOfBoundsException"), ("java/lang/ArithmeticException", "java/lang/UnsupportedOperationException"), ("java/lang/ArithmeticException", "java/util/NoSuchElementException"), ("java/lang/ArrayIndexOutOfBoundsException", "java/lang/ArithmeticException"), ("java/lang/ArrayIndexOutOfBoundsException", "java/lang/IllegalArgumentException"), ("java/lang/ArrayIndexOutOfBoundsException", "java/lang/IllegalStateException"), ("java/lang/ArrayIndexOutOfBoundsException", "java/lang/UnsupportedOperationException"), ("java/lang/ArrayIndexOutOfBoundsException", "java/util/NoSuchElementException"), ("java/lang/IllegalArgumentException", "java/lang/ArithmeticException"), ("java/lang/IllegalArgumentException", "java/lang/IllegalStateException"), ("java/lang/IllegalArgumentException", "java/lang/IndexOutOfBoundsException"), ("java/lang/IllegalArgumentException", "java/lang/UnsupportedOperationException"), ("java/lang/IllegalArgumentException", "java/util/NoSuchElementException"), ("java/lang/IllegalStateException", "java/lang/ArithmeticException"), ("java/lang/IllegalStateException", "java/lang/IllegalArgumentException"), ("java/lang/IllegalStateException", "java/lang/IndexOutOfBoundsException"), ("java/lang/IllegalStateException", "java/lang/UnsupportedOperationException"), ("java/lang/IllegalStateException", "java/util/NoSuchElementException"), ("java/lang/IndexOutOfBoundsException", "java/lang/ArithmeticException"), ("java/lang/IndexOutOfBoundsException", "java/lang/IllegalArgumentException"), ("java/lang/IndexOutOfBoundsException", "java/lang/IllegalStateException"), ("java/lang/IndexOutOfBoundsException", "java/lang/UnsupportedOperationException"), ("java/lang/IndexOutOfBoundsException", "java/util/NoSuchElementException"), ("java/lang/UnsupportedOperationException", "java/lang/ArithmeticException"), ("java/lang/UnsupportedOperationException", "java/lang/IllegalArgumentException"), ("java/lang/UnsupportedOperationException", "java/lang/IllegalStateException"), ("java/lang/UnsupportedOperationException", "java/lang/IndexOutOfBoundsException"), ("java/lang/UnsupportedOperationException", "java/util/NoSuchElementException"), ("java/util/NoSuchElementException", "java/lang/ArithmeticException"), ("java/util/NoSuchElementException", "java/lang/IllegalArgumentException"), ("java/util/NoSuchElementException", "java/lang/IllegalStateException"), ("java/util/NoSuchElementException", "java/lang/IndexOutOfBoundsException"), ("java/util/NoSuchElementException", "java/lang/UnsupportedOperationException")]
def mt_ao : List String := ["MountTable$Layer", "MountTable$Mount", "MountTable$Backup"]
theorem mw_in_L : (Cond.initialized "MountTableLaw") ∈ mt_T := mt_m1 0 rfl rfl
theorem mw_in_X3 : (Cond.initialized "MountTable") ∈ mt_T := mt_m1 1 rfl rfl
theorem mw_in_X4 : (Cond.initialized "MountTableModel") ∈ mt_T := mt_m1 2 rfl rfl
theorem mw_in_java_lang_Throwable : (Cond.initialized "java/lang/Throwable") ∈ mt_T := mt_m1 3 rfl rfl
theorem mw_in_java_lang_Exception : (Cond.initialized "java/lang/Exception") ∈ mt_T := mt_m1 4 rfl rfl
theorem mw_in_java_lang_RuntimeException : (Cond.initialized "java/lang/RuntimeException") ∈ mt_T := mt_m1 5 rfl rfl
theorem mw_in_java_lang_IllegalStateException : (Cond.initialized "java/lang/IllegalStateException") ∈ mt_T := mt_m1 6 rfl rfl
theorem mw_in_X1 : (Cond.initialized "MountTable$Layer") ∈ mt_T := mt_m1 7 rfl rfl
theorem mw_in_java_lang_IndexOutOfBoundsException : (Cond.initialized "java/lang/IndexOutOfBoundsException") ∈ mt_T := mt_m1 8 rfl rfl
theorem mw_in_Jx00060 : (Cond.initialized "java/lang/ArrayIndexOutOfBoundsException") ∈ mt_T := mt_m1 9 rfl rfl
theorem mw_in_J0 : (Cond.initialized "java/lang/String") ∈ mt_T := mt_m1 10 rfl rfl
theorem mw_in_java_lang_IllegalArgumentException : (Cond.initialized "java/lang/IllegalArgumentException") ∈ mt_T := mt_m1 11 rfl rfl
theorem mw_in_java_lang_UnsupportedOperationException : (Cond.initialized "java/lang/UnsupportedOperationException") ∈ mt_T := mt_m1 12 rfl rfl
theorem mw_in_X2 : (Cond.initialized "MountTable$Mount") ∈ mt_T := mt_m1 13 rfl rfl
theorem mw_in_java_util_NoSuchElementException : (Cond.initialized "java/util/NoSuchElementException") ∈ mt_T := mt_m1 14 rfl rfl
theorem mw_in_X0 : (Cond.initialized "MountTable$Backup") ∈ mt_T := mt_m1 15 rfl rfl
theorem mw_in_java_lang_ArithmeticException : (Cond.initialized "java/lang/ArithmeticException") ∈ mt_T := mt_m1 16 rfl rfl
theorem mw_cl_L_8 : (Cond.classLink "MountTableLaw" (8 : Nat) "MountTable") ∈ mt_T := mt_m1 17 rfl rfl
theorem mw_ii_X3 : (Cond.instantiable "MountTable" (11 : Nat)) ∈ mt_T := mt_m1 18 rfl rfl
theorem mw_ml_L_102 : (Cond.methodLink "MountTableLaw" (102 : Nat) ({ cls := "MountTable", name := "<init>", desc := "()V" } : MethodName)) ∈ mt_T := mt_m1 19 rfl rfl
theorem mw_im_X3_init : (Cond.instanceMethod ({ cls := "MountTable", name := "<init>", desc := "()V" } : MethodName)) ∈ mt_T := mt_m1 20 rfl rfl
theorem mw_co_X3_init : (Cond.code ({ cls := "MountTable", name := "<init>", desc := "()V" } : MethodName) prog_1_method_1_code (2 : Nat) (Option.none : Option ClassFile.FieldType)) ∈ mt_T := mt_m1 21 rfl rfl
theorem mw_ml_X3_1 : (Cond.methodLink "MountTable" (1 : Nat) ({ cls := "java/lang/Object", name := "<init>", desc := "()V" } : MethodName)) ∈ mt_T := mt_m1 22 rfl rfl
theorem mw_im_java_lang_Object__init___V : (Cond.instanceMethod ({ cls := "java/lang/Object", name := "<init>", desc := "()V" } : MethodName)) ∈ mt_T := mt_m1 23 rfl rfl
theorem mw_co_java_lang_Object__init___V : (Cond.code ({ cls := "java/lang/Object", name := "<init>", desc := "()V" } : MethodName) object_method_1_code (1 : Nat) (Option.none : Option ClassFile.FieldType)) ∈ mt_T := mt_m1 24 rfl rfl
theorem mw_cl_X3_9 : (Cond.classLink "MountTable" (9 : Nat) "MountTable$Layer") ∈ mt_T := mt_m1 25 rfl rfl
theorem mw_cl_X3_15 : (Cond.classLink "MountTable" (15 : Nat) "MountTable$Mount") ∈ mt_T := mt_m1 27 rfl rfl
theorem mw_cl_X3_21 : (Cond.classLink "MountTable" (21 : Nat) "MountTable$Backup") ∈ mt_T := mt_m1 29 rfl rfl
theorem mw_fl_X3_11 : (Cond.fieldLink "MountTable" (11 : Nat) "MountTable" "layers" "[LMountTable$Layer;") ∈ mt_T := mt_m1 31 rfl rfl
theorem mw_fl_X3_17 : (Cond.fieldLink "MountTable" (17 : Nat) "MountTable" "mounts" "[LMountTable$Mount;") ∈ mt_T := mt_m1 32 rfl rfl
theorem mw_fl_X3_23 : (Cond.fieldLink "MountTable" (23 : Nat) "MountTable" "backups" "[LMountTable$Backup;") ∈ mt_T := mt_m1 33 rfl rfl
theorem mw_fl_X3_27 : (Cond.fieldLink "MountTable" (27 : Nat) "MountTable" "used" "[I") ∈ mt_T := mt_m1 34 rfl rfl
theorem mw_fl_X3_31 : (Cond.fieldLink "MountTable" (31 : Nat) "MountTable" "quotas" "[I") ∈ mt_T := mt_m1 35 rfl rfl
theorem mw_fl_X3_34 : (Cond.fieldLink "MountTable" (34 : Nat) "MountTable" "servers" "[I") ∈ mt_T := mt_m1 36 rfl rfl
theorem mw_fl_X3_37 : (Cond.fieldLink "MountTable" (37 : Nat) "MountTable" "rests" "[I") ∈ mt_T := mt_m1 37 rfl rfl
theorem mw_fl_X3_40 : (Cond.fieldLink "MountTable" (40 : Nat) "MountTable" "layerCount" "I") ∈ mt_T := mt_m1 38 rfl rfl
theorem mw_fl_X3_82 : (Cond.fieldLink "MountTable" (82 : Nat) "MountTable" "mountCount" "I") ∈ mt_T := mt_m1 39 rfl rfl
theorem mw_fl_X3_225 : (Cond.fieldLink "MountTable" (225 : Nat) "MountTable" "backupCount" "I") ∈ mt_T := mt_m1 40 rfl rfl
theorem mw_fl_X3_219 : (Cond.fieldLink "MountTable" (219 : Nat) "MountTable" "copyCount" "I") ∈ mt_T := mt_m1 41 rfl rfl
theorem mw_la_X3_X3_layers : (Cond.laysFinal "MountTable" "MountTable" "layers" "[LMountTable$Layer;") ∈ mt_T := mt_m1 42 rfl rfl
theorem mw_la_X3_X3_mounts : (Cond.laysFinal "MountTable" "MountTable" "mounts" "[LMountTable$Mount;") ∈ mt_T := mt_m1 44 rfl rfl
theorem mw_la_X3_X3_backups : (Cond.laysFinal "MountTable" "MountTable" "backups" "[LMountTable$Backup;") ∈ mt_T := mt_m1 46 rfl rfl
theorem mw_la_X3_X3_used : (Cond.laysFinal "MountTable" "MountTable" "used" "[I") ∈ mt_T := mt_m1 48 rfl rfl
theorem mw_la_X3_X3_quotas : (Cond.laysFinal "MountTable" "MountTable" "quotas" "[I") ∈ mt_T := mt_m1 50 rfl rfl
theorem mw_la_X3_X3_servers : (Cond.laysFinal "MountTable" "MountTable" "servers" "[I") ∈ mt_T := mt_m1 52 rfl rfl
theorem mw_la_X3_X3_rests : (Cond.laysFinal "MountTable" "MountTable" "rests" "[I") ∈ mt_T := mt_m1 54 rfl rfl
theorem mw_la_X3_X3_layerCount : (Cond.lays "MountTable" "MountTable" "layerCount" "I") ∈ mt_T := mt_m1 56 rfl rfl
theorem mw_la_X3_X3_mountCount : (Cond.lays "MountTable" "MountTable" "mountCount" "I") ∈ mt_T := mt_m1 58 rfl rfl
theorem mw_la_X3_X3_backupCount : (Cond.lays "MountTable" "MountTable" "backupCount" "I") ∈ mt_T := mt_m1 60 rfl rfl
theorem mw_la_X3_X3_copyCount : (Cond.lays "MountTable" "MountTable" "copyCount" "I") ∈ mt_T := mt_m1 62 rfl rfl
theorem mw_ac_int : (Cond.arrayClass ClassFile.FieldType.int) ∈ mt_T := mt_m1 65 rfl rfl
theorem mw_ml_L_131 : (Cond.methodLink "MountTableLaw" (131 : Nat) ({ cls := "MountTable", name := "covered", desc := "()I" } : MethodName)) ∈ mt_T := mt_m1 66 rfl rfl
theorem mw_im_X3_covered : (Cond.instanceMethod ({ cls := "MountTable", name := "covered", desc := "()I" } : MethodName)) ∈ mt_T := mt_m1 67 rfl rfl
theorem mw_se_X3_X3_covered : (Cond.selects "MountTable" ({ cls := "MountTable", name := "covered", desc := "()I" } : MethodName) ({ cls := "MountTable", name := "covered", desc := "()I" } : MethodName)) ∈ mt_T := mt_m1 68 rfl rfl
theorem mw_co_X3_covered : (Cond.code ({ cls := "MountTable", name := "covered", desc := "()I" } : MethodName) prog_1_method_8_code (4 : Nat) (Option.some ClassFile.FieldType.int)) ∈ mt_T := mt_m1 69 rfl rfl
theorem mw_ml_X3_101 : (Cond.methodLink "MountTable" (101 : Nat) ({ cls := "MountTable", name := "mountThere", desc := "(I)LMountTable$Mount;" } : MethodName)) ∈ mt_T := mt_m1 70 rfl rfl
theorem mw_im_X3_mountThere : (Cond.instanceMethod ({ cls := "MountTable", name := "mountThere", desc := "(I)LMountTable$Mount;" } : MethodName)) ∈ mt_T := mt_m1 72 rfl rfl
theorem mw_co_X3_mountThere : (Cond.code ({ cls := "MountTable", name := "mountThere", desc := "(I)LMountTable$Mount;" } : MethodName) prog_1_method_41_code (3 : Nat) (Option.some (ClassFile.FieldType.object "MountTable$Mount"))) ∈ mt_T := mt_m1 73 rfl rfl
theorem mw_ml_X3_52 : (Cond.methodLink "MountTable" (52 : Nat) ({ cls := "MountTable", name := "placeOf", desc := "(I)I" } : MethodName)) ∈ mt_T := mt_m1 74 rfl rfl
theorem mw_st_X3_placeOf : (Cond.static ({ cls := "MountTable", name := "placeOf", desc := "(I)I" } : MethodName)) ∈ mt_T := mt_m1 75 rfl rfl
theorem mw_co_X3_placeOf : (Cond.code ({ cls := "MountTable", name := "placeOf", desc := "(I)I" } : MethodName) prog_1_method_29_code (5 : Nat) (Option.some ClassFile.FieldType.int)) ∈ mt_T := mt_m1 76 rfl rfl
theorem mw_ml_X3_113 : (Cond.methodLink "MountTable" (113 : Nat) ({ cls := "MountTable", name := "serverAt", desc := "(I)I" } : MethodName)) ∈ mt_T := mt_m1 77 rfl rfl
theorem mw_im_X3_serverAt : (Cond.instanceMethod ({ cls := "MountTable", name := "serverAt", desc := "(I)I" } : MethodName)) ∈ mt_T := mt_m1 79 rfl rfl
theorem mw_co_X3_serverAt : (Cond.code ({ cls := "MountTable", name := "serverAt", desc := "(I)I" } : MethodName) prog_1_method_48_code (2 : Nat) (Option.some ClassFile.FieldType.int)) ∈ mt_T := mt_m1 80 rfl rfl
theorem mw_ml_X3_272 : (Cond.methodLink "MountTable" (272 : Nat) ({ cls := "MountTable", name := "isPlace", desc := "(I)Z" } : MethodName)) ∈ mt_T := mt_m1 81 rfl rfl
theorem mw_st_X3_isPlace : (Cond.static ({ cls := "MountTable", name := "isPlace", desc := "(I)Z" } : MethodName)) ∈ mt_T := mt_m1 82 rfl rfl
theorem mw_co_X3_isPlace : (Cond.code ({ cls := "MountTable", name := "isPlace", desc := "(I)Z" } : MethodName) prog_1_method_30_code (1 : Nat) (Option.some ClassFile.FieldType.boolean)) ∈ mt_T := mt_m1 83 rfl rfl
theorem mw_ml_L_171 : (Cond.methodLink "MountTableLaw" (171 : Nat) ({ cls := "MountTable", name := "hidden", desc := "()I" } : MethodName)) ∈ mt_T := mt_m1 84 rfl rfl
theorem mw_im_X3_hidden : (Cond.instanceMethod ({ cls := "MountTable", name := "hidden", desc := "()I" } : MethodName)) ∈ mt_T := mt_m1 85 rfl rfl
theorem mw_se_X3_X3_hidden : (Cond.selects "MountTable" ({ cls := "MountTable", name := "hidden", desc := "()I" } : MethodName) ({ cls := "MountTable", name := "hidden", desc := "()I" } : MethodName)) ∈ mt_T := mt_m1 86 rfl rfl
theorem mw_co_X3_hidden : (Cond.code ({ cls := "MountTable", name := "hidden", desc := "()I" } : MethodName) prog_1_method_21_code (1 : Nat) (Option.some ClassFile.FieldType.int)) ∈ mt_T := mt_m1 87 rfl rfl
theorem mw_ml_X3_213 : (Cond.methodLink "MountTable" (213 : Nat) ({ cls := "MountTable", name := "allBytes", desc := "()I" } : MethodName)) ∈ mt_T := mt_m1 88 rfl rfl
theorem mw_im_X3_allBytes : (Cond.instanceMethod ({ cls := "MountTable", name := "allBytes", desc := "()I" } : MethodName)) ∈ mt_T := mt_m1 90 rfl rfl
theorem mw_co_X3_allBytes : (Cond.code ({ cls := "MountTable", name := "allBytes", desc := "()I" } : MethodName) prog_1_method_38_code (3 : Nat) (Option.some ClassFile.FieldType.int)) ∈ mt_T := mt_m1 91 rfl rfl
theorem mw_ml_X3_130 : (Cond.methodLink "MountTable" (130 : Nat) ({ cls := "MountTable", name := "usedBy", desc := "(I)I" } : MethodName)) ∈ mt_T := mt_m1 92 rfl rfl
theorem mw_im_X3_usedBy : (Cond.instanceMethod ({ cls := "MountTable", name := "usedBy", desc := "(I)I" } : MethodName)) ∈ mt_T := mt_m1 94 rfl rfl
theorem mw_co_X3_usedBy : (Cond.code ({ cls := "MountTable", name := "usedBy", desc := "(I)I" } : MethodName) prog_1_method_35_code (2 : Nat) (Option.some ClassFile.FieldType.int)) ∈ mt_T := mt_m1 95 rfl rfl
theorem mw_ml_X3_207 : (Cond.methodLink "MountTable" (207 : Nat) ({ cls := "MountTable", name := "isOwner", desc := "(I)Z" } : MethodName)) ∈ mt_T := mt_m1 96 rfl rfl
theorem mw_st_X3_isOwner : (Cond.static ({ cls := "MountTable", name := "isOwner", desc := "(I)Z" } : MethodName)) ∈ mt_T := mt_m1 97 rfl rfl
theorem mw_co_X3_isOwner : (Cond.code ({ cls := "MountTable", name := "isOwner", desc := "(I)Z" } : MethodName) prog_1_method_33_code (1 : Nat) (Option.some ClassFile.FieldType.boolean)) ∈ mt_T := mt_m1 98 rfl rfl
theorem mw_ml_X3_216 : (Cond.methodLink "MountTable" (216 : Nat) ({ cls := "MountTable", name := "shownBytes", desc := "()I" } : MethodName)) ∈ mt_T := mt_m1 99 rfl rfl
theorem mw_im_X3_shownBytes : (Cond.instanceMethod ({ cls := "MountTable", name := "shownBytes", desc := "()I" } : MethodName)) ∈ mt_T := mt_m1 101 rfl rfl
theorem mw_co_X3_shownBytes : (Cond.code ({ cls := "MountTable", name := "shownBytes", desc := "()I" } : MethodName) prog_1_method_57_code (4 : Nat) (Option.some ClassFile.FieldType.int)) ∈ mt_T := mt_m1 102 rfl rfl
theorem mw_ml_X3_61 : (Cond.methodLink "MountTable" (61 : Nat) ({ cls := "MountTable", name := "layerAt", desc := "(I)LMountTable$Layer;" } : MethodName)) ∈ mt_T := mt_m1 103 rfl rfl
theorem mw_im_X3_layerAt : (Cond.instanceMethod ({ cls := "MountTable", name := "layerAt", desc := "(I)LMountTable$Layer;" } : MethodName)) ∈ mt_T := mt_m1 105 rfl rfl
theorem mw_co_X3_layerAt : (Cond.code ({ cls := "MountTable", name := "layerAt", desc := "(I)LMountTable$Layer;" } : MethodName) prog_1_method_39_code (2 : Nat) (Option.some (ClassFile.FieldType.object "MountTable$Layer"))) ∈ mt_T := mt_m1 106 rfl rfl
theorem mw_ml_X3_281 : (Cond.methodLink "MountTable" (281 : Nat) ({ cls := "MountTable$Layer", name := "forgetCounted", desc := "()V" } : MethodName)) ∈ mt_T := mt_m1 107 rfl rfl
theorem mw_im_X1_forgetCounted : (Cond.instanceMethod ({ cls := "MountTable$Layer", name := "forgetCounted", desc := "()V" } : MethodName)) ∈ mt_T := mt_m1 108 rfl rfl
theorem mw_se_X1_X1_forgetCounted : (Cond.selects "MountTable$Layer" ({ cls := "MountTable$Layer", name := "forgetCounted", desc := "()V" } : MethodName) ({ cls := "MountTable$Layer", name := "forgetCounted", desc := "()V" } : MethodName)) ∈ mt_T := mt_m1 109 rfl rfl
theorem mw_co_X1_forgetCounted : (Cond.code ({ cls := "MountTable$Layer", name := "forgetCounted", desc := "()V" } : MethodName) prog_3_method_12_code (2 : Nat) (Option.none : Option ClassFile.FieldType)) ∈ mt_T := mt_m1 110 rfl rfl
theorem mw_ml_X3_178 : (Cond.methodLink "MountTable" (178 : Nat) ({ cls := "MountTable", name := "layerShown", desc := "(I)I" } : MethodName)) ∈ mt_T := mt_m1 111 rfl rfl
theorem mw_im_X3_layerShown : (Cond.instanceMethod ({ cls := "MountTable", name := "layerShown", desc := "(I)I" } : MethodName)) ∈ mt_T := mt_m1 113 rfl rfl
theorem mw_co_X3_layerShown : (Cond.code ({ cls := "MountTable", name := "layerShown", desc := "(I)I" } : MethodName) prog_1_method_54_code (2 : Nat) (Option.some ClassFile.FieldType.int)) ∈ mt_T := mt_m1 114 rfl rfl
theorem mw_ml_X3_133 : (Cond.methodLink "MountTable" (133 : Nat) ({ cls := "MountTable", name := "restAt", desc := "(I)I" } : MethodName)) ∈ mt_T := mt_m1 115 rfl rfl
theorem mw_im_X3_restAt : (Cond.instanceMethod ({ cls := "MountTable", name := "restAt", desc := "(I)I" } : MethodName)) ∈ mt_T := mt_m1 117 rfl rfl
theorem mw_co_X3_restAt : (Cond.code ({ cls := "MountTable", name := "restAt", desc := "(I)I" } : MethodName) prog_1_method_49_code (2 : Nat) (Option.some ClassFile.FieldType.int)) ∈ mt_T := mt_m1 118 rfl rfl
theorem mw_ml_X3_194 : (Cond.methodLink "MountTable" (194 : Nat) ({ cls := "MountTable", name := "layerShownBy", desc := "(LMountTable$Mount;I)I" } : MethodName)) ∈ mt_T := mt_m1 119 rfl rfl
theorem mw_im_X3_layerShownBy : (Cond.instanceMethod ({ cls := "MountTable", name := "layerShownBy", desc := "(LMountTable$Mount;I)I" } : MethodName)) ∈ mt_T := mt_m1 121 rfl rfl
theorem mw_co_X3_layerShownBy : (Cond.code ({ cls := "MountTable", name := "layerShownBy", desc := "(LMountTable$Mount;I)I" } : MethodName) prog_1_method_53_code (4 : Nat) (Option.some ClassFile.FieldType.int)) ∈ mt_T := mt_m1 122 rfl rfl
theorem mw_ml_X3_164 : (Cond.methodLink "MountTable" (164 : Nat) ({ cls := "MountTable", name := "kindIn", desc := "(II)I" } : MethodName)) ∈ mt_T := mt_m1 123 rfl rfl
theorem mw_im_X3_kindIn : (Cond.instanceMethod ({ cls := "MountTable", name := "kindIn", desc := "(II)I" } : MethodName)) ∈ mt_T := mt_m1 125 rfl rfl
theorem mw_co_X3_kindIn : (Cond.code ({ cls := "MountTable", name := "kindIn", desc := "(II)I" } : MethodName) prog_1_method_51_code (4 : Nat) (Option.some ClassFile.FieldType.int)) ∈ mt_T := mt_m1 126 rfl rfl
theorem mw_ml_X3_275 : (Cond.methodLink "MountTable" (275 : Nat) ({ cls := "MountTable$Layer", name := "kindAt", desc := "(I)I" } : MethodName)) ∈ mt_T := mt_m1 127 rfl rfl
theorem mw_im_X1_kindAt : (Cond.instanceMethod ({ cls := "MountTable$Layer", name := "kindAt", desc := "(I)I" } : MethodName)) ∈ mt_T := mt_m1 128 rfl rfl
theorem mw_se_X1_X1_kindAt : (Cond.selects "MountTable$Layer" ({ cls := "MountTable$Layer", name := "kindAt", desc := "(I)I" } : MethodName) ({ cls := "MountTable$Layer", name := "kindAt", desc := "(I)I" } : MethodName)) ∈ mt_T := mt_m1 129 rfl rfl
theorem mw_co_X1_kindAt : (Cond.code ({ cls := "MountTable$Layer", name := "kindAt", desc := "(I)I" } : MethodName) prog_3_method_2_code (2 : Nat) (Option.some ClassFile.FieldType.int)) ∈ mt_T := mt_m1 130 rfl rfl
theorem mw_ml_X3_167 : (Cond.methodLink "MountTable" (167 : Nat) ({ cls := "MountTable", name := "isThing", desc := "(I)Z" } : MethodName)) ∈ mt_T := mt_m1 131 rfl rfl
theorem mw_st_X3_isThing : (Cond.static ({ cls := "MountTable", name := "isThing", desc := "(I)Z" } : MethodName)) ∈ mt_T := mt_m1 132 rfl rfl
theorem mw_co_X3_isThing : (Cond.code ({ cls := "MountTable", name := "isThing", desc := "(I)Z" } : MethodName) prog_1_method_50_code (1 : Nat) (Option.some ClassFile.FieldType.boolean)) ∈ mt_T := mt_m1 133 rfl rfl
theorem mw_ml_X3_284 : (Cond.methodLink "MountTable" (284 : Nat) ({ cls := "MountTable$Layer", name := "bytesNotYetCounted", desc := "(I)I" } : MethodName)) ∈ mt_T := mt_m1 134 rfl rfl
theorem mw_im_X1_bytesNotYetCounted : (Cond.instanceMethod ({ cls := "MountTable$Layer", name := "bytesNotYetCounted", desc := "(I)I" } : MethodName)) ∈ mt_T := mt_m1 135 rfl rfl
theorem mw_se_X1_X1_bytesNotYetCounted : (Cond.selects "MountTable$Layer" ({ cls := "MountTable$Layer", name := "bytesNotYetCounted", desc := "(I)I" } : MethodName) ({ cls := "MountTable$Layer", name := "bytesNotYetCounted", desc := "(I)I" } : MethodName)) ∈ mt_T := mt_m1 136 rfl rfl
theorem mw_co_X1_bytesNotYetCounted : (Cond.code ({ cls := "MountTable$Layer", name := "bytesNotYetCounted", desc := "(I)I" } : MethodName) prog_3_method_13_code (2 : Nat) (Option.some ClassFile.FieldType.int)) ∈ mt_T := mt_m1 137 rfl rfl
theorem mw_mn_X1_38 : (Cond.methodLinkNest "MountTable$Layer" (38 : Nat) ({ cls := "MountTable", name := "isPlace", desc := "(I)Z" } : MethodName) "MountTable") ∈ mt_bw := mt_b1 138 rfl rfl
theorem mw_ml_X1_35 : (Cond.methodLink "MountTable$Layer" (35 : Nat) ({ cls := "MountTable$Layer", name := "bytesAt", desc := "(I)I" } : MethodName)) ∈ mt_T := mt_m1 139 rfl rfl
theorem mw_im_X1_bytesAt : (Cond.instanceMethod ({ cls := "MountTable$Layer", name := "bytesAt", desc := "(I)I" } : MethodName)) ∈ mt_T := mt_m1 140 rfl rfl
theorem mw_se_X1_X1_bytesAt : (Cond.selects "MountTable$Layer" ({ cls := "MountTable$Layer", name := "bytesAt", desc := "(I)I" } : MethodName) ({ cls := "MountTable$Layer", name := "bytesAt", desc := "(I)I" } : MethodName)) ∈ mt_T := mt_m1 141 rfl rfl
theorem mw_co_X1_bytesAt : (Cond.code ({ cls := "MountTable$Layer", name := "bytesAt", desc := "(I)I" } : MethodName) prog_3_method_6_code (2 : Nat) (Option.some ClassFile.FieldType.int)) ∈ mt_T := mt_m1 142 rfl rfl
theorem mw_ml_X1_25 : (Cond.methodLink "MountTable$Layer" (25 : Nat) ({ cls := "MountTable$Layer", name := "kindAt", desc := "(I)I" } : MethodName)) ∈ mt_T := mt_m1 143 rfl rfl
theorem mw_ml_X1_29 : (Cond.methodLink "MountTable$Layer" (29 : Nat) ({ cls := "MountTable$Layer", name := "valueAt", desc := "(I)I" } : MethodName)) ∈ mt_T := mt_m1 144 rfl rfl
theorem mw_im_X1_valueAt : (Cond.instanceMethod ({ cls := "MountTable$Layer", name := "valueAt", desc := "(I)I" } : MethodName)) ∈ mt_T := mt_m1 145 rfl rfl
theorem mw_se_X1_X1_valueAt : (Cond.selects "MountTable$Layer" ({ cls := "MountTable$Layer", name := "valueAt", desc := "(I)I" } : MethodName) ({ cls := "MountTable$Layer", name := "valueAt", desc := "(I)I" } : MethodName)) ∈ mt_T := mt_m1 146 rfl rfl
theorem mw_co_X1_valueAt : (Cond.code ({ cls := "MountTable$Layer", name := "valueAt", desc := "(I)I" } : MethodName) prog_3_method_4_code (2 : Nat) (Option.some ClassFile.FieldType.int)) ∈ mt_T := mt_m1 147 rfl rfl
theorem mw_ml_L_175 : (Cond.methodLink "MountTableLaw" (175 : Nat) ({ cls := "MountTable", name := "copies", desc := "()I" } : MethodName)) ∈ mt_T := mt_m1 148 rfl rfl
theorem mw_im_X3_copies : (Cond.instanceMethod ({ cls := "MountTable", name := "copies", desc := "()I" } : MethodName)) ∈ mt_T := mt_m1 149 rfl rfl
theorem mw_se_X3_X3_copies : (Cond.selects "MountTable" ({ cls := "MountTable", name := "copies", desc := "()I" } : MethodName) ({ cls := "MountTable", name := "copies", desc := "()I" } : MethodName)) ∈ mt_T := mt_m1 150 rfl rfl
theorem mw_co_X3_copies : (Cond.code ({ cls := "MountTable", name := "copies", desc := "()I" } : MethodName) prog_1_method_22_code (1 : Nat) (Option.some ClassFile.FieldType.int)) ∈ mt_T := mt_m1 151 rfl rfl
theorem mw_ml_L_106 : (Cond.methodLink "MountTableLaw" (106 : Nat) ({ cls := "MountTableLaw", name := "addLayer", desc := "(LMountTable;[J)I" } : MethodName)) ∈ mt_T := mt_m1 152 rfl rfl
theorem mw_st_L_addLayer : (Cond.static ({ cls := "MountTableLaw", name := "addLayer", desc := "(LMountTable;[J)I" } : MethodName)) ∈ mt_T := mt_m1 153 rfl rfl
theorem mw_cw_L_addLayer : (Cond.codeWith ({ cls := "MountTableLaw", name := "addLayer", desc := "(LMountTable;[J)I" } : MethodName) method_3_code (3 : Nat) (Option.some ClassFile.FieldType.int) [((0 : Nat), (8 : Nat), (11 : Nat), (13 : Nat))]) ∈ mt_T := mt_m1 154 rfl rfl
theorem mw_cl_L_13 : (Cond.classLink "MountTableLaw" (13 : Nat) "java/lang/IllegalStateException") ∈ mt_T := mt_m1 155 rfl rfl
theorem mw_ml_L_7 : (Cond.methodLink "MountTableLaw" (7 : Nat) ({ cls := "MountTable", name := "addLayer", desc := "()I" } : MethodName)) ∈ mt_T := mt_m1 156 rfl rfl
theorem mw_im_X3_addLayer : (Cond.instanceMethod ({ cls := "MountTable", name := "addLayer", desc := "()I" } : MethodName)) ∈ mt_T := mt_m1 157 rfl rfl
theorem mw_se_X3_X3_addLayer : (Cond.selects "MountTable" ({ cls := "MountTable", name := "addLayer", desc := "()I" } : MethodName) ({ cls := "MountTable", name := "addLayer", desc := "()I" } : MethodName)) ∈ mt_T := mt_m1 158 rfl rfl
theorem mw_co_X3_addLayer : (Cond.code ({ cls := "MountTable", name := "addLayer", desc := "()I" } : MethodName) prog_1_method_2_code (2 : Nat) (Option.some ClassFile.FieldType.int)) ∈ mt_T := mt_m1 159 rfl rfl
theorem mw_cl_X3_44 : (Cond.classLink "MountTable" (44 : Nat) "java/lang/IllegalStateException") ∈ mt_T := mt_m1 160 rfl rfl
theorem mw_ii_java_lang_IllegalStateException : (Cond.instantiable "java/lang/IllegalStateException" (6 : Nat)) ∈ mt_T := mt_m1 161 rfl rfl
theorem mw_ca_java_lang_IllegalStateException_java_lang_IllegalStateException : (Cond.castable "java/lang/IllegalStateException" "java/lang/IllegalStateException") ∈ mt_bw := mt_b1 162 rfl rfl
theorem mw_declares_163 : (Cond.declares ({ cls := "java/lang/RuntimeException", name := "<init>", desc := "()V" } : MethodName)) ∈ mt_bw := mt_b1 163 rfl rfl
theorem mw_declares_164 : (Cond.declares ({ cls := "java/lang/RuntimeException", name := "<init>", desc := "(Ljava/lang/String;)V" } : MethodName)) ∈ mt_bw := mt_b1 164 rfl rfl
theorem mw_declares_165 : (Cond.declares ({ cls := "java/lang/Exception", name := "<init>", desc := "()V" } : MethodName)) ∈ mt_bw := mt_b1 165 rfl rfl
theorem mw_declares_166 : (Cond.declares ({ cls := "java/lang/Exception", name := "<init>", desc := "(Ljava/lang/String;)V" } : MethodName)) ∈ mt_bw := mt_b1 166 rfl rfl
theorem mw_declares_167 : (Cond.declares ({ cls := "java/lang/Throwable", name := "<init>", desc := "()V" } : MethodName)) ∈ mt_bw := mt_b1 167 rfl rfl
theorem mw_declares_168 : (Cond.declares ({ cls := "java/lang/Throwable", name := "<init>", desc := "(Ljava/lang/String;)V" } : MethodName)) ∈ mt_bw := mt_b1 168 rfl rfl
theorem mw_se_java_lang_IllegalStateException_java_lang_Throwable_fillInStackTrace_I_Ljava_lang_Throwable_ : (Cond.selects "java/lang/IllegalStateException" ({ cls := "java/lang/Throwable", name := "fillInStackTrace", desc := "(I)Ljava/lang/Throwable;" } : MethodName) ({ cls := "java/lang/Throwable", name := "fillInStackTrace", desc := "(I)Ljava/lang/Throwable;" } : MethodName)) ∈ mt_T := mt_m1 169 rfl rfl
theorem mw_se_java_lang_IllegalStateException_java_lang_Throwable_fillInStackTrace__Ljava_lang_Throwable_ : (Cond.selects "java/lang/IllegalStateException" ({ cls := "java/lang/Throwable", name := "fillInStackTrace", desc := "()Ljava/lang/Throwable;" } : MethodName) ({ cls := "java/lang/Throwable", name := "fillInStackTrace", desc := "()Ljava/lang/Throwable;" } : MethodName)) ∈ mt_T := mt_m1 170 rfl rfl
theorem mw_la_java_lang_IllegalStateException_java_lang_Throwable_cause : (Cond.lays "java/lang/IllegalStateException" "java/lang/Throwable" "cause" "Ljava/lang/Throwable;") ∈ mt_T := mt_m1 171 rfl rfl
theorem mw_la_java_lang_Throwable_java_lang_Throwable_cause : (Cond.lays "java/lang/Throwable" "java/lang/Throwable" "cause" "Ljava/lang/Throwable;") ∈ mt_T := mt_m1 172 rfl rfl
theorem mw_la_java_lang_IllegalStateException_java_lang_Throwable_stackTrace : (Cond.lays "java/lang/IllegalStateException" "java/lang/Throwable" "stackTrace" "[Ljava/lang/StackTraceElement;") ∈ mt_T := mt_m1 173 rfl rfl
theorem mw_la_java_lang_Throwable_java_lang_Throwable_stackTrace : (Cond.lays "java/lang/Throwable" "java/lang/Throwable" "stackTrace" "[Ljava/lang/StackTraceElement;") ∈ mt_T := mt_m1 174 rfl rfl
theorem mw_la_java_lang_IllegalStateException_java_lang_Throwable_suppressedExceptions : (Cond.lays "java/lang/IllegalStateException" "java/lang/Throwable" "suppressedExceptions" "Ljava/util/List;") ∈ mt_T := mt_m1 175 rfl rfl
theorem mw_la_java_lang_Throwable_java_lang_Throwable_suppressedExceptions : (Cond.lays "java/lang/Throwable" "java/lang/Throwable" "suppressedExceptions" "Ljava/util/List;") ∈ mt_T := mt_m1 176 rfl rfl
theorem mw_la_java_lang_IllegalStateException_java_lang_Throwable_detailMessage : (Cond.lays "java/lang/IllegalStateException" "java/lang/Throwable" "detailMessage" "Ljava/lang/String;") ∈ mt_T := mt_m1 177 rfl rfl
theorem mw_la_java_lang_Throwable_java_lang_Throwable_detailMessage : (Cond.lays "java/lang/Throwable" "java/lang/Throwable" "detailMessage" "Ljava/lang/String;") ∈ mt_T := mt_m1 178 rfl rfl
theorem mw_la_java_lang_IllegalStateException_java_lang_Throwable_backtrace : (Cond.lays "java/lang/IllegalStateException" "java/lang/Throwable" "backtrace" "Ljava/lang/Object;") ∈ mt_T := mt_m1 179 rfl rfl
theorem mw_la_java_lang_Throwable_java_lang_Throwable_backtrace : (Cond.lays "java/lang/Throwable" "java/lang/Throwable" "backtrace" "Ljava/lang/Object;") ∈ mt_T := mt_m1 180 rfl rfl
theorem mw_fl_java_lang_Throwable_198 : (Cond.fieldLink "java/lang/Throwable" (198 : Nat) "java/lang/Throwable" "backtrace" "Ljava/lang/Object;") ∈ mt_T := mt_m1 181 rfl rfl
theorem mw_im_java_lang_Throwable__init___V : (Cond.instanceMethod ({ cls := "java/lang/Throwable", name := "<init>", desc := "()V" } : MethodName)) ∈ mt_T := mt_m1 183 rfl rfl
theorem mw_co_java_lang_Throwable__init___V : (Cond.code ({ cls := "java/lang/Throwable", name := "<init>", desc := "()V" } : MethodName) prog_15_method_1_code (1 : Nat) (Option.none : Option ClassFile.FieldType)) ∈ mt_T := mt_m1 184 rfl rfl
theorem mw_ml_java_lang_Throwable_1 : (Cond.methodLink "java/lang/Throwable" (1 : Nat) ({ cls := "java/lang/Object", name := "<init>", desc := "()V" } : MethodName)) ∈ mt_T := mt_m1 185 rfl rfl
theorem mw_fl_java_lang_Throwable_13 : (Cond.fieldLink "java/lang/Throwable" (13 : Nat) "java/lang/Throwable" "UNASSIGNED_STACK" "[Ljava/lang/StackTraceElement;") ∈ mt_T := mt_m1 186 rfl rfl
theorem mw_fl_java_lang_Throwable_20 : (Cond.fieldLink "java/lang/Throwable" (20 : Nat) "java/lang/Throwable" "SUPPRESSED_SENTINEL" "Ljava/util/List;") ∈ mt_T := mt_m1 188 rfl rfl
theorem mw_ml_java_lang_Throwable_27 : (Cond.methodLink "java/lang/Throwable" (27 : Nat) ({ cls := "java/lang/Throwable", name := "fillInStackTrace", desc := "()Ljava/lang/Throwable;" } : MethodName)) ∈ mt_T := mt_m1 190 rfl rfl
theorem mw_im_java_lang_Throwable_fillInStackTrace__Ljava_lang_Throwable_ : (Cond.instanceMethod ({ cls := "java/lang/Throwable", name := "fillInStackTrace", desc := "()Ljava/lang/Throwable;" } : MethodName)) ∈ mt_T := mt_m1 191 rfl rfl
theorem mw_se_java_lang_ArithmeticException_java_lang_Throwable_fillInStackTrace__Ljava_lang_Throwable_ : (Cond.selects "java/lang/ArithmeticException" ({ cls := "java/lang/Throwable", name := "fillInStackTrace", desc := "()Ljava/lang/Throwable;" } : MethodName) ({ cls := "java/lang/Throwable", name := "fillInStackTrace", desc := "()Ljava/lang/Throwable;" } : MethodName)) ∈ mt_T := mt_m1 193 rfl rfl
theorem mw_se_Jx00060_java_lang_Throwable_fillInStackTrace__Ljava_lang_Throwable_ : (Cond.selects "java/lang/ArrayIndexOutOfBoundsException" ({ cls := "java/lang/Throwable", name := "fillInStackTrace", desc := "()Ljava/lang/Throwable;" } : MethodName) ({ cls := "java/lang/Throwable", name := "fillInStackTrace", desc := "()Ljava/lang/Throwable;" } : MethodName)) ∈ mt_T := mt_m1 194 rfl rfl
theorem mw_se_java_lang_IllegalArgumentException_java_lang_Throwable_fillInStackTrace__Ljava_lang_Throwable_ : (Cond.selects "java/lang/IllegalArgumentException" ({ cls := "java/lang/Throwable", name := "fillInStackTrace", desc := "()Ljava/lang/Throwable;" } : MethodName) ({ cls := "java/lang/Throwable", name := "fillInStackTrace", desc := "()Ljava/lang/Throwable;" } : MethodName)) ∈ mt_T := mt_m1 195 rfl rfl
theorem mw_se_java_lang_IndexOutOfBoundsException_java_lang_Throwable_fillInStackTrace__Ljava_lang_Throwable_ : (Cond.selects "java/lang/IndexOutOfBoundsException" ({ cls := "java/lang/Throwable", name := "fillInStackTrace", desc := "()Ljava/lang/Throwable;" } : MethodName) ({ cls := "java/lang/Throwable", name := "fillInStackTrace", desc := "()Ljava/lang/Throwable;" } : MethodName)) ∈ mt_T := mt_m1 196 rfl rfl
theorem mw_se_java_lang_UnsupportedOperationException_java_lang_Throwable_fillInStackTrace__Ljava_lang_Throwable_ : (Cond.selects "java/lang/UnsupportedOperationException" ({ cls := "java/lang/Throwable", name := "fillInStackTrace", desc := "()Ljava/lang/Throwable;" } : MethodName) ({ cls := "java/lang/Throwable", name := "fillInStackTrace", desc := "()Ljava/lang/Throwable;" } : MethodName)) ∈ mt_T := mt_m1 197 rfl rfl
theorem mw_se_java_util_NoSuchElementException_java_lang_Throwable_fillInStackTrace__Ljava_lang_Throwable_ : (Cond.selects "java/util/NoSuchElementException" ({ cls := "java/lang/Throwable", name := "fillInStackTrace", desc := "()Ljava/lang/Throwable;" } : MethodName) ({ cls := "java/lang/Throwable", name := "fillInStackTrace", desc := "()Ljava/lang/Throwable;" } : MethodName)) ∈ mt_T := mt_m1 198 rfl rfl
theorem mw_ml_java_lang_Throwable_202 : (Cond.methodLink "java/lang/Throwable" (202 : Nat) ({ cls := "java/lang/Throwable", name := "fillInStackTrace", desc := "(I)Ljava/lang/Throwable;" } : MethodName)) ∈ mt_T := mt_m1 200 rfl rfl
theorem mw_im_java_lang_Throwable_fillInStackTrace_I_Ljava_lang_Throwable_ : (Cond.instanceMethod ({ cls := "java/lang/Throwable", name := "fillInStackTrace", desc := "(I)Ljava/lang/Throwable;" } : MethodName)) ∈ mt_T := mt_m1 202 rfl rfl
theorem mw_ii_java_lang_Throwable : (Cond.instantiable "java/lang/Throwable" (6 : Nat)) ∈ mt_T := mt_m1 203 rfl rfl
theorem mw_ml_X3_48 : (Cond.methodLink "MountTable" (48 : Nat) ({ cls := "java/lang/IllegalStateException", name := "<init>", desc := "(Ljava/lang/String;)V" } : MethodName)) ∈ mt_T := mt_m1 206 rfl rfl
theorem mw_im_java_lang_IllegalStateException__init__Ljava_lang_String__V : (Cond.instanceMethod ({ cls := "java/lang/IllegalStateException", name := "<init>", desc := "(Ljava/lang/String;)V" } : MethodName)) ∈ mt_T := mt_m1 207 rfl rfl
theorem mw_co_java_lang_IllegalStateException__init__Ljava_lang_String__V : (Cond.code ({ cls := "java/lang/IllegalStateException", name := "<init>", desc := "(Ljava/lang/String;)V" } : MethodName) prog_11_method_2_code (2 : Nat) (Option.none : Option ClassFile.FieldType)) ∈ mt_T := mt_m1 208 rfl rfl
theorem mw_ml_java_lang_IllegalStateException_7 : (Cond.methodLink "java/lang/IllegalStateException" (7 : Nat) ({ cls := "java/lang/RuntimeException", name := "<init>", desc := "(Ljava/lang/String;)V" } : MethodName)) ∈ mt_T := mt_m1 209 rfl rfl
theorem mw_im_java_lang_RuntimeException__init__Ljava_lang_String__V : (Cond.instanceMethod ({ cls := "java/lang/RuntimeException", name := "<init>", desc := "(Ljava/lang/String;)V" } : MethodName)) ∈ mt_T := mt_m1 210 rfl rfl
theorem mw_co_java_lang_RuntimeException__init__Ljava_lang_String__V : (Cond.code ({ cls := "java/lang/RuntimeException", name := "<init>", desc := "(Ljava/lang/String;)V" } : MethodName) prog_13_method_2_code (2 : Nat) (Option.none : Option ClassFile.FieldType)) ∈ mt_T := mt_m1 211 rfl rfl
theorem mw_ml_java_lang_RuntimeException_7 : (Cond.methodLink "java/lang/RuntimeException" (7 : Nat) ({ cls := "java/lang/Exception", name := "<init>", desc := "(Ljava/lang/String;)V" } : MethodName)) ∈ mt_T := mt_m1 212 rfl rfl
theorem mw_im_java_lang_Exception__init__Ljava_lang_String__V : (Cond.instanceMethod ({ cls := "java/lang/Exception", name := "<init>", desc := "(Ljava/lang/String;)V" } : MethodName)) ∈ mt_T := mt_m1 213 rfl rfl
theorem mw_co_java_lang_Exception__init__Ljava_lang_String__V : (Cond.code ({ cls := "java/lang/Exception", name := "<init>", desc := "(Ljava/lang/String;)V" } : MethodName) prog_9_method_2_code (2 : Nat) (Option.none : Option ClassFile.FieldType)) ∈ mt_T := mt_m1 214 rfl rfl
theorem mw_ml_java_lang_Exception_7 : (Cond.methodLink "java/lang/Exception" (7 : Nat) ({ cls := "java/lang/Throwable", name := "<init>", desc := "(Ljava/lang/String;)V" } : MethodName)) ∈ mt_T := mt_m1 215 rfl rfl
theorem mw_im_java_lang_Throwable__init__Ljava_lang_String__V : (Cond.instanceMethod ({ cls := "java/lang/Throwable", name := "<init>", desc := "(Ljava/lang/String;)V" } : MethodName)) ∈ mt_T := mt_m1 216 rfl rfl
theorem mw_co_java_lang_Throwable__init__Ljava_lang_String__V : (Cond.code ({ cls := "java/lang/Throwable", name := "<init>", desc := "(Ljava/lang/String;)V" } : MethodName) prog_15_method_2_code (2 : Nat) (Option.none : Option ClassFile.FieldType)) ∈ mt_T := mt_m1 217 rfl rfl
theorem mw_fl_java_lang_Throwable_198_218 : (Cond.fieldLink "java/lang/Throwable" (198 : Nat) "java/lang/Throwable" "backtrace" "Ljava/lang/Object;") ∈ mt_T := mt_m1 218 rfl rfl
theorem mw_fl_java_lang_Throwable_31 : (Cond.fieldLink "java/lang/Throwable" (31 : Nat) "java/lang/Throwable" "detailMessage" "Ljava/lang/String;") ∈ mt_T := mt_m1 219 rfl rfl
theorem mw_fl_java_lang_Throwable_7 : (Cond.fieldLink "java/lang/Throwable" (7 : Nat) "java/lang/Throwable" "cause" "Ljava/lang/Throwable;") ∈ mt_T := mt_m1 220 rfl rfl
theorem mw_fl_java_lang_Throwable_17 : (Cond.fieldLink "java/lang/Throwable" (17 : Nat) "java/lang/Throwable" "stackTrace" "[Ljava/lang/StackTraceElement;") ∈ mt_T := mt_m1 221 rfl rfl
theorem mw_fl_java_lang_Throwable_24 : (Cond.fieldLink "java/lang/Throwable" (24 : Nat) "java/lang/Throwable" "suppressedExceptions" "Ljava/util/List;") ∈ mt_T := mt_m1 222 rfl rfl
theorem mw_la_java_lang_IllegalStateException_java_lang_Throwable_depth : (Cond.lays "java/lang/IllegalStateException" "java/lang/Throwable" "depth" "I") ∈ mt_T := mt_m1 227 rfl rfl
theorem mw_ac_byte : (Cond.arrayClass ClassFile.FieldType.byte) ∈ mt_T := mt_m1 231 rfl rfl
theorem mw_ii_X1 : (Cond.instantiable "MountTable$Layer" (4 : Nat)) ∈ mt_T := mt_m1 232 rfl rfl
theorem mw_ml_X3_51 : (Cond.methodLink "MountTable" (51 : Nat) ({ cls := "MountTable$Layer", name := "<init>", desc := "()V" } : MethodName)) ∈ mt_T := mt_m1 233 rfl rfl
theorem mw_im_X1_init : (Cond.instanceMethod ({ cls := "MountTable$Layer", name := "<init>", desc := "()V" } : MethodName)) ∈ mt_T := mt_m1 234 rfl rfl
theorem mw_co_X1_init : (Cond.code ({ cls := "MountTable$Layer", name := "<init>", desc := "()V" } : MethodName) prog_3_method_1_code (1 : Nat) (Option.none : Option ClassFile.FieldType)) ∈ mt_T := mt_m1 235 rfl rfl
theorem mw_ml_X1_3 : (Cond.methodLink "MountTable$Layer" (3 : Nat) ({ cls := "java/lang/Object", name := "<init>", desc := "()V" } : MethodName)) ∈ mt_T := mt_m1 236 rfl rfl
theorem mw_fl_X1_9 : (Cond.fieldLink "MountTable$Layer" (9 : Nat) "MountTable$Layer" "kinds" "[I") ∈ mt_T := mt_m1 237 rfl rfl
theorem mw_fl_X1_15 : (Cond.fieldLink "MountTable$Layer" (15 : Nat) "MountTable$Layer" "owners" "[I") ∈ mt_T := mt_m1 238 rfl rfl
theorem mw_fl_X1_18 : (Cond.fieldLink "MountTable$Layer" (18 : Nat) "MountTable$Layer" "values" "[I") ∈ mt_T := mt_m1 239 rfl rfl
theorem mw_fl_X1_21 : (Cond.fieldLink "MountTable$Layer" (21 : Nat) "MountTable$Layer" "isCounted" "[Z") ∈ mt_T := mt_m2 0 rfl rfl
theorem mw_la_X1_X1_kinds : (Cond.laysFinal "MountTable$Layer" "MountTable$Layer" "kinds" "[I") ∈ mt_T := mt_m2 1 rfl rfl
theorem mw_la_X1_X1_owners : (Cond.laysFinal "MountTable$Layer" "MountTable$Layer" "owners" "[I") ∈ mt_T := mt_m2 3 rfl rfl
theorem mw_la_X1_X1_values : (Cond.laysFinal "MountTable$Layer" "MountTable$Layer" "values" "[I") ∈ mt_T := mt_m2 5 rfl rfl
theorem mw_la_X1_X1_isCounted : (Cond.laysFinal "MountTable$Layer" "MountTable$Layer" "isCounted" "[Z") ∈ mt_T := mt_m2 7 rfl rfl
theorem mw_ac_boolean : (Cond.arrayClass ClassFile.FieldType.boolean) ∈ mt_T := mt_m2 10 rfl rfl
theorem mw_ml_L_112 : (Cond.methodLink "MountTableLaw" (112 : Nat) ({ cls := "MountTableLaw", name := "mount", desc := "(LMountTable;III[J)I" } : MethodName)) ∈ mt_T := mt_m2 11 rfl rfl
theorem mw_st_L_mount : (Cond.static ({ cls := "MountTableLaw", name := "mount", desc := "(LMountTable;III[J)I" } : MethodName)) ∈ mt_T := mt_m2 12 rfl rfl
theorem mw_cw_L_mount : (Cond.codeWith ({ cls := "MountTableLaw", name := "mount", desc := "(LMountTable;III[J)I" } : MethodName) method_4_code (6 : Nat) (Option.some ClassFile.FieldType.int) [((0 : Nat), (12 : Nat), (15 : Nat), (19 : Nat)), ((0 : Nat), (12 : Nat), (19 : Nat), (21 : Nat)), ((0 : Nat), (12 : Nat), (23 : Nat), (23 : Nat)), ((0 : Nat), (12 : Nat), (27 : Nat), (13 : Nat))]) ∈ mt_T := mt_m2 13 rfl rfl
theorem mw_cl_L_19 : (Cond.classLink "MountTableLaw" (19 : Nat) "java/lang/IllegalArgumentException") ∈ mt_T := mt_m2 14 rfl rfl
theorem mw_cl_L_21 : (Cond.classLink "MountTableLaw" (21 : Nat) "java/lang/IndexOutOfBoundsException") ∈ mt_T := mt_m2 15 rfl rfl
theorem mw_ii_Jx00060 : (Cond.instantiable "java/lang/ArrayIndexOutOfBoundsException" (6 : Nat)) ∈ mt_T := mt_m2 16 rfl rfl
theorem mw_im_Jx00060_init_a7421 : (Cond.instanceMethod ({ cls := "java/lang/ArrayIndexOutOfBoundsException", name := "<init>", desc := "(Ljava/lang/String;)V" } : MethodName)) ∈ mt_T := mt_m2 17 rfl rfl
theorem mw_co_Jx00060_init_a7421 : (Cond.code ({ cls := "java/lang/ArrayIndexOutOfBoundsException", name := "<init>", desc := "(Ljava/lang/String;)V" } : MethodName) prog_8_method_2_code (2 : Nat) (Option.none : Option ClassFile.FieldType)) ∈ mt_T := mt_m2 18 rfl rfl
theorem mw_ml_Jx00060_7 : (Cond.methodLink "java/lang/ArrayIndexOutOfBoundsException" (7 : Nat) ({ cls := "java/lang/IndexOutOfBoundsException", name := "<init>", desc := "(Ljava/lang/String;)V" } : MethodName)) ∈ mt_T := mt_m2 19 rfl rfl
theorem mw_im_java_lang_IndexOutOfBoundsException__init__Ljava_lang_String__V : (Cond.instanceMethod ({ cls := "java/lang/IndexOutOfBoundsException", name := "<init>", desc := "(Ljava/lang/String;)V" } : MethodName)) ∈ mt_T := mt_m2 20 rfl rfl
theorem mw_co_java_lang_IndexOutOfBoundsException__init__Ljava_lang_String__V : (Cond.code ({ cls := "java/lang/IndexOutOfBoundsException", name := "<init>", desc := "(Ljava/lang/String;)V" } : MethodName) prog_12_method_2_code (2 : Nat) (Option.none : Option ClassFile.FieldType)) ∈ mt_T := mt_m2 21 rfl rfl
theorem mw_ml_java_lang_IndexOutOfBoundsException_7 : (Cond.methodLink "java/lang/IndexOutOfBoundsException" (7 : Nat) ({ cls := "java/lang/RuntimeException", name := "<init>", desc := "(Ljava/lang/String;)V" } : MethodName)) ∈ mt_T := mt_m2 22 rfl rfl
theorem mw_la_Jx00060_java_lang_Throwable_backtrace : (Cond.lays "java/lang/ArrayIndexOutOfBoundsException" "java/lang/Throwable" "backtrace" "Ljava/lang/Object;") ∈ mt_T := mt_m2 23 rfl rfl
theorem mw_la_Jx00060_java_lang_Throwable_detailMessage : (Cond.lays "java/lang/ArrayIndexOutOfBoundsException" "java/lang/Throwable" "detailMessage" "Ljava/lang/String;") ∈ mt_T := mt_m2 24 rfl rfl
theorem mw_la_Jx00060_java_lang_Throwable_cause : (Cond.lays "java/lang/ArrayIndexOutOfBoundsException" "java/lang/Throwable" "cause" "Ljava/lang/Throwable;") ∈ mt_T := mt_m2 25 rfl rfl
theorem mw_la_Jx00060_java_lang_Throwable_stackTrace : (Cond.lays "java/lang/ArrayIndexOutOfBoundsException" "java/lang/Throwable" "stackTrace" "[Ljava/lang/StackTraceElement;") ∈ mt_T := mt_m2 26 rfl rfl
theorem mw_la_Jx00060_java_lang_Throwable_depth : (Cond.lays "java/lang/ArrayIndexOutOfBoundsException" "java/lang/Throwable" "depth" "I") ∈ mt_T := mt_m2 27 rfl rfl
theorem mw_la_Jx00060_java_lang_Throwable_suppressedExceptions : (Cond.lays "java/lang/ArrayIndexOutOfBoundsException" "java/lang/Throwable" "suppressedExceptions" "Ljava/util/List;") ∈ mt_T := mt_m2 28 rfl rfl
theorem mw_ca_Jx00060_Jx00060 : (Cond.castable "java/lang/ArrayIndexOutOfBoundsException" "java/lang/ArrayIndexOutOfBoundsException") ∈ mt_bw := mt_b2 30 rfl rfl
theorem mw_declares_271 : (Cond.declares ({ cls := "java/lang/IndexOutOfBoundsException", name := "<init>", desc := "()V" } : MethodName)) ∈ mt_bw := mt_b2 31 rfl rfl
theorem mw_declares_272 : (Cond.declares ({ cls := "java/lang/IndexOutOfBoundsException", name := "<init>", desc := "(Ljava/lang/String;)V" } : MethodName)) ∈ mt_bw := mt_b2 32 rfl rfl
theorem mw_se_Jx00060_java_lang_Throwable_fillInStackTrace_I_Ljava_lang_Throwable_ : (Cond.selects "java/lang/ArrayIndexOutOfBoundsException" ({ cls := "java/lang/Throwable", name := "fillInStackTrace", desc := "(I)Ljava/lang/Throwable;" } : MethodName) ({ cls := "java/lang/Throwable", name := "fillInStackTrace", desc := "(I)Ljava/lang/Throwable;" } : MethodName)) ∈ mt_T := mt_m2 33 rfl rfl
theorem mw_ii_J0 : (Cond.instantiable "java/lang/String" (4 : Nat)) ∈ mt_T := mt_m2 34 rfl rfl
theorem mw_la_J0_J0_value : (Cond.laysFinal "java/lang/String" "java/lang/String" "value" "[B") ∈ mt_T := mt_m2 35 rfl rfl
theorem mw_la_J0_J0_coder : (Cond.laysFinal "java/lang/String" "java/lang/String" "coder" "B") ∈ mt_T := mt_m2 37 rfl rfl
theorem mw_cl_L_23 : (Cond.classLink "MountTableLaw" (23 : Nat) "java/lang/UnsupportedOperationException") ∈ mt_T := mt_m2 39 rfl rfl
theorem mw_ml_L_15 : (Cond.methodLink "MountTableLaw" (15 : Nat) ({ cls := "MountTable", name := "mount", desc := "(III)I" } : MethodName)) ∈ mt_T := mt_m2 40 rfl rfl
theorem mw_im_X3_mount : (Cond.instanceMethod ({ cls := "MountTable", name := "mount", desc := "(III)I" } : MethodName)) ∈ mt_T := mt_m2 41 rfl rfl
theorem mw_se_X3_X3_mount : (Cond.selects "MountTable" ({ cls := "MountTable", name := "mount", desc := "(III)I" } : MethodName) ({ cls := "MountTable", name := "mount", desc := "(III)I" } : MethodName)) ∈ mt_T := mt_m2 42 rfl rfl
theorem mw_co_X3_mount : (Cond.code ({ cls := "MountTable", name := "mount", desc := "(III)I" } : MethodName) prog_1_method_3_code (6 : Nat) (Option.some ClassFile.FieldType.int)) ∈ mt_T := mt_m2 43 rfl rfl
theorem mw_cl_X3_56 : (Cond.classLink "MountTable" (56 : Nat) "java/lang/IllegalArgumentException") ∈ mt_T := mt_m2 44 rfl rfl
theorem mw_ii_java_lang_IllegalArgumentException : (Cond.instantiable "java/lang/IllegalArgumentException" (6 : Nat)) ∈ mt_T := mt_m2 45 rfl rfl
theorem mw_ca_java_lang_IllegalArgumentException_java_lang_IllegalArgumentException : (Cond.castable "java/lang/IllegalArgumentException" "java/lang/IllegalArgumentException") ∈ mt_bw := mt_b2 46 rfl rfl
theorem mw_se_java_lang_IllegalArgumentException_java_lang_Throwable_fillInStackTrace_I_Ljava_lang_Throwable_ : (Cond.selects "java/lang/IllegalArgumentException" ({ cls := "java/lang/Throwable", name := "fillInStackTrace", desc := "(I)Ljava/lang/Throwable;" } : MethodName) ({ cls := "java/lang/Throwable", name := "fillInStackTrace", desc := "(I)Ljava/lang/Throwable;" } : MethodName)) ∈ mt_T := mt_m2 47 rfl rfl
theorem mw_la_java_lang_IllegalArgumentException_java_lang_Throwable_cause : (Cond.lays "java/lang/IllegalArgumentException" "java/lang/Throwable" "cause" "Ljava/lang/Throwable;") ∈ mt_T := mt_m2 48 rfl rfl
theorem mw_la_java_lang_IllegalArgumentException_java_lang_Throwable_stackTrace : (Cond.lays "java/lang/IllegalArgumentException" "java/lang/Throwable" "stackTrace" "[Ljava/lang/StackTraceElement;") ∈ mt_T := mt_m2 49 rfl rfl
theorem mw_la_java_lang_IllegalArgumentException_java_lang_Throwable_suppressedExceptions : (Cond.lays "java/lang/IllegalArgumentException" "java/lang/Throwable" "suppressedExceptions" "Ljava/util/List;") ∈ mt_T := mt_m2 50 rfl rfl
theorem mw_la_java_lang_IllegalArgumentException_java_lang_Throwable_detailMessage : (Cond.lays "java/lang/IllegalArgumentException" "java/lang/Throwable" "detailMessage" "Ljava/lang/String;") ∈ mt_T := mt_m2 51 rfl rfl
theorem mw_la_java_lang_IllegalArgumentException_java_lang_Throwable_backtrace : (Cond.lays "java/lang/IllegalArgumentException" "java/lang/Throwable" "backtrace" "Ljava/lang/Object;") ∈ mt_T := mt_m2 52 rfl rfl
theorem mw_ml_X3_60 : (Cond.methodLink "MountTable" (60 : Nat) ({ cls := "java/lang/IllegalArgumentException", name := "<init>", desc := "(Ljava/lang/String;)V" } : MethodName)) ∈ mt_T := mt_m2 54 rfl rfl
theorem mw_im_java_lang_IllegalArgumentException__init__Ljava_lang_String__V : (Cond.instanceMethod ({ cls := "java/lang/IllegalArgumentException", name := "<init>", desc := "(Ljava/lang/String;)V" } : MethodName)) ∈ mt_T := mt_m2 55 rfl rfl
theorem mw_co_java_lang_IllegalArgumentException__init__Ljava_lang_String__V : (Cond.code ({ cls := "java/lang/IllegalArgumentException", name := "<init>", desc := "(Ljava/lang/String;)V" } : MethodName) prog_10_method_2_code (2 : Nat) (Option.none : Option ClassFile.FieldType)) ∈ mt_T := mt_m2 56 rfl rfl
theorem mw_ml_java_lang_IllegalArgumentException_7 : (Cond.methodLink "java/lang/IllegalArgumentException" (7 : Nat) ({ cls := "java/lang/RuntimeException", name := "<init>", desc := "(Ljava/lang/String;)V" } : MethodName)) ∈ mt_T := mt_m2 57 rfl rfl
theorem mw_la_java_lang_IllegalArgumentException_java_lang_Throwable_depth : (Cond.lays "java/lang/IllegalArgumentException" "java/lang/Throwable" "depth" "I") ∈ mt_T := mt_m2 58 rfl rfl
theorem mw_cl_X3_65 : (Cond.classLink "MountTable" (65 : Nat) "java/lang/IndexOutOfBoundsException") ∈ mt_T := mt_m2 60 rfl rfl
theorem mw_ii_java_lang_IndexOutOfBoundsException : (Cond.instantiable "java/lang/IndexOutOfBoundsException" (6 : Nat)) ∈ mt_T := mt_m2 61 rfl rfl
theorem mw_ca_java_lang_IndexOutOfBoundsException_java_lang_IndexOutOfBoundsException : (Cond.castable "java/lang/IndexOutOfBoundsException" "java/lang/IndexOutOfBoundsException") ∈ mt_bw := mt_b2 62 rfl rfl
theorem mw_se_java_lang_IndexOutOfBoundsException_java_lang_Throwable_fillInStackTrace_I_Ljava_lang_Throwable_ : (Cond.selects "java/lang/IndexOutOfBoundsException" ({ cls := "java/lang/Throwable", name := "fillInStackTrace", desc := "(I)Ljava/lang/Throwable;" } : MethodName) ({ cls := "java/lang/Throwable", name := "fillInStackTrace", desc := "(I)Ljava/lang/Throwable;" } : MethodName)) ∈ mt_T := mt_m2 63 rfl rfl
theorem mw_la_java_lang_IndexOutOfBoundsException_java_lang_Throwable_cause : (Cond.lays "java/lang/IndexOutOfBoundsException" "java/lang/Throwable" "cause" "Ljava/lang/Throwable;") ∈ mt_T := mt_m2 64 rfl rfl
theorem mw_la_java_lang_IndexOutOfBoundsException_java_lang_Throwable_stackTrace : (Cond.lays "java/lang/IndexOutOfBoundsException" "java/lang/Throwable" "stackTrace" "[Ljava/lang/StackTraceElement;") ∈ mt_T := mt_m2 65 rfl rfl
theorem mw_la_java_lang_IndexOutOfBoundsException_java_lang_Throwable_suppressedExceptions : (Cond.lays "java/lang/IndexOutOfBoundsException" "java/lang/Throwable" "suppressedExceptions" "Ljava/util/List;") ∈ mt_T := mt_m2 66 rfl rfl
theorem mw_la_java_lang_IndexOutOfBoundsException_java_lang_Throwable_detailMessage : (Cond.lays "java/lang/IndexOutOfBoundsException" "java/lang/Throwable" "detailMessage" "Ljava/lang/String;") ∈ mt_T := mt_m2 67 rfl rfl
theorem mw_la_java_lang_IndexOutOfBoundsException_java_lang_Throwable_backtrace : (Cond.lays "java/lang/IndexOutOfBoundsException" "java/lang/Throwable" "backtrace" "Ljava/lang/Object;") ∈ mt_T := mt_m2 68 rfl rfl
theorem mw_ml_X3_69 : (Cond.methodLink "MountTable" (69 : Nat) ({ cls := "java/lang/IndexOutOfBoundsException", name := "<init>", desc := "(Ljava/lang/String;)V" } : MethodName)) ∈ mt_T := mt_m2 70 rfl rfl
theorem mw_la_java_lang_IndexOutOfBoundsException_java_lang_Throwable_depth : (Cond.lays "java/lang/IndexOutOfBoundsException" "java/lang/Throwable" "depth" "I") ∈ mt_T := mt_m2 71 rfl rfl
theorem mw_ml_X3_70 : (Cond.methodLink "MountTable" (70 : Nat) ({ cls := "MountTable", name := "isUpperOfSome", desc := "(I)Z" } : MethodName)) ∈ mt_T := mt_m2 73 rfl rfl
theorem mw_im_X3_isUpperOfSome : (Cond.instanceMethod ({ cls := "MountTable", name := "isUpperOfSome", desc := "(I)Z" } : MethodName)) ∈ mt_T := mt_m2 75 rfl rfl
theorem mw_co_X3_isUpperOfSome : (Cond.code ({ cls := "MountTable", name := "isUpperOfSome", desc := "(I)Z" } : MethodName) prog_1_method_44_code (4 : Nat) (Option.some ClassFile.FieldType.boolean)) ∈ mt_T := mt_m2 76 rfl rfl
theorem mw_ml_X3_74 : (Cond.methodLink "MountTable" (74 : Nat) ({ cls := "MountTable", name := "isInSome", desc := "(I)Z" } : MethodName)) ∈ mt_T := mt_m2 77 rfl rfl
theorem mw_im_X3_isInSome : (Cond.instanceMethod ({ cls := "MountTable", name := "isInSome", desc := "(I)Z" } : MethodName)) ∈ mt_T := mt_m2 79 rfl rfl
theorem mw_co_X3_isInSome : (Cond.code ({ cls := "MountTable", name := "isInSome", desc := "(I)Z" } : MethodName) prog_1_method_45_code (4 : Nat) (Option.some ClassFile.FieldType.boolean)) ∈ mt_T := mt_m2 80 rfl rfl
theorem mw_cl_X3_77 : (Cond.classLink "MountTable" (77 : Nat) "java/lang/UnsupportedOperationException") ∈ mt_T := mt_m2 81 rfl rfl
theorem mw_ii_java_lang_UnsupportedOperationException : (Cond.instantiable "java/lang/UnsupportedOperationException" (6 : Nat)) ∈ mt_T := mt_m2 82 rfl rfl
theorem mw_ca_java_lang_UnsupportedOperationException_java_lang_UnsupportedOperationException : (Cond.castable "java/lang/UnsupportedOperationException" "java/lang/UnsupportedOperationException") ∈ mt_bw := mt_b2 83 rfl rfl
theorem mw_se_java_lang_UnsupportedOperationException_java_lang_Throwable_fillInStackTrace_I_Ljava_lang_Throwable_ : (Cond.selects "java/lang/UnsupportedOperationException" ({ cls := "java/lang/Throwable", name := "fillInStackTrace", desc := "(I)Ljava/lang/Throwable;" } : MethodName) ({ cls := "java/lang/Throwable", name := "fillInStackTrace", desc := "(I)Ljava/lang/Throwable;" } : MethodName)) ∈ mt_T := mt_m2 84 rfl rfl
theorem mw_la_java_lang_UnsupportedOperationException_java_lang_Throwable_cause : (Cond.lays "java/lang/UnsupportedOperationException" "java/lang/Throwable" "cause" "Ljava/lang/Throwable;") ∈ mt_T := mt_m2 85 rfl rfl
theorem mw_la_java_lang_UnsupportedOperationException_java_lang_Throwable_stackTrace : (Cond.lays "java/lang/UnsupportedOperationException" "java/lang/Throwable" "stackTrace" "[Ljava/lang/StackTraceElement;") ∈ mt_T := mt_m2 86 rfl rfl
theorem mw_la_java_lang_UnsupportedOperationException_java_lang_Throwable_suppressedExceptions : (Cond.lays "java/lang/UnsupportedOperationException" "java/lang/Throwable" "suppressedExceptions" "Ljava/util/List;") ∈ mt_T := mt_m2 87 rfl rfl
theorem mw_la_java_lang_UnsupportedOperationException_java_lang_Throwable_detailMessage : (Cond.lays "java/lang/UnsupportedOperationException" "java/lang/Throwable" "detailMessage" "Ljava/lang/String;") ∈ mt_T := mt_m2 88 rfl rfl
theorem mw_la_java_lang_UnsupportedOperationException_java_lang_Throwable_backtrace : (Cond.lays "java/lang/UnsupportedOperationException" "java/lang/Throwable" "backtrace" "Ljava/lang/Object;") ∈ mt_T := mt_m2 89 rfl rfl
theorem mw_ml_X3_81 : (Cond.methodLink "MountTable" (81 : Nat) ({ cls := "java/lang/UnsupportedOperationException", name := "<init>", desc := "(Ljava/lang/String;)V" } : MethodName)) ∈ mt_T := mt_m2 91 rfl rfl
theorem mw_im_java_lang_UnsupportedOperationException__init__Ljava_lang_String__V : (Cond.instanceMethod ({ cls := "java/lang/UnsupportedOperationException", name := "<init>", desc := "(Ljava/lang/String;)V" } : MethodName)) ∈ mt_T := mt_m2 92 rfl rfl
theorem mw_co_java_lang_UnsupportedOperationException__init__Ljava_lang_String__V : (Cond.code ({ cls := "java/lang/UnsupportedOperationException", name := "<init>", desc := "(Ljava/lang/String;)V" } : MethodName) prog_16_method_2_code (2 : Nat) (Option.none : Option ClassFile.FieldType)) ∈ mt_T := mt_m2 93 rfl rfl
theorem mw_ml_java_lang_UnsupportedOperationException_7 : (Cond.methodLink "java/lang/UnsupportedOperationException" (7 : Nat) ({ cls := "java/lang/RuntimeException", name := "<init>", desc := "(Ljava/lang/String;)V" } : MethodName)) ∈ mt_T := mt_m2 94 rfl rfl
theorem mw_la_java_lang_UnsupportedOperationException_java_lang_Throwable_depth : (Cond.lays "java/lang/UnsupportedOperationException" "java/lang/Throwable" "depth" "I") ∈ mt_T := mt_m2 95 rfl rfl
theorem mw_ii_X2 : (Cond.instantiable "MountTable$Mount" (5 : Nat)) ∈ mt_T := mt_m2 98 rfl rfl
theorem mw_ml_X3_87 : (Cond.methodLink "MountTable" (87 : Nat) ({ cls := "MountTable$Mount", name := "<init>", desc := "(III)V" } : MethodName)) ∈ mt_T := mt_m2 99 rfl rfl
theorem mw_im_X2_init : (Cond.instanceMethod ({ cls := "MountTable$Mount", name := "<init>", desc := "(III)V" } : MethodName)) ∈ mt_T := mt_m2 100 rfl rfl
theorem mw_co_X2_init : (Cond.code ({ cls := "MountTable$Mount", name := "<init>", desc := "(III)V" } : MethodName) prog_4_method_1_code (4 : Nat) (Option.none : Option ClassFile.FieldType)) ∈ mt_T := mt_m2 101 rfl rfl
theorem mw_ml_X2_3 : (Cond.methodLink "MountTable$Mount" (3 : Nat) ({ cls := "java/lang/Object", name := "<init>", desc := "()V" } : MethodName)) ∈ mt_T := mt_m2 102 rfl rfl
theorem mw_fl_X2_15 : (Cond.fieldLink "MountTable$Mount" (15 : Nat) "MountTable$Mount" "lower" "I") ∈ mt_T := mt_m2 103 rfl rfl
theorem mw_fn_X3_161 : (Cond.fieldLinkNest "MountTable" (161 : Nat) "MountTable$Mount" "lower" "I" "MountTable") ∈ mt_bw := mt_b2 104 rfl rfl
theorem mw_fl_X2_18 : (Cond.fieldLink "MountTable$Mount" (18 : Nat) "MountTable$Mount" "upper" "I") ∈ mt_T := mt_m2 105 rfl rfl
theorem mw_fn_X3_158 : (Cond.fieldLinkNest "MountTable" (158 : Nat) "MountTable$Mount" "upper" "I" "MountTable") ∈ mt_bw := mt_b2 106 rfl rfl
theorem mw_fl_X2_9 : (Cond.fieldLink "MountTable$Mount" (9 : Nat) "MountTable$Mount" "point" "I") ∈ mt_T := mt_m2 107 rfl rfl
theorem mw_fn_X3_107 : (Cond.fieldLinkNest "MountTable" (107 : Nat) "MountTable$Mount" "point" "I" "MountTable") ∈ mt_bw := mt_b2 108 rfl rfl
theorem mw_fl_X2_21 : (Cond.fieldLink "MountTable$Mount" (21 : Nat) "MountTable$Mount" "isThere" "Z") ∈ mt_T := mt_m2 109 rfl rfl
theorem mw_fn_X3_97 : (Cond.fieldLinkNest "MountTable" (97 : Nat) "MountTable$Mount" "isThere" "Z" "MountTable") ∈ mt_bw := mt_b2 110 rfl rfl
theorem mw_fn_X3_110 : (Cond.fieldLinkNest "MountTable" (110 : Nat) "MountTable$Mount" "isCrossing" "Z" "MountTable") ∈ mt_bw := mt_b2 111 rfl rfl
theorem mw_la_X2_X2_lower : (Cond.laysFinal "MountTable$Mount" "MountTable$Mount" "lower" "I") ∈ mt_T := mt_m2 112 rfl rfl
theorem mw_la_X2_X2_upper : (Cond.laysFinal "MountTable$Mount" "MountTable$Mount" "upper" "I") ∈ mt_T := mt_m2 114 rfl rfl
theorem mw_la_X2_X2_point : (Cond.lays "MountTable$Mount" "MountTable$Mount" "point" "I") ∈ mt_T := mt_m2 116 rfl rfl
theorem mw_la_X2_X2_isThere : (Cond.lays "MountTable$Mount" "MountTable$Mount" "isThere" "Z") ∈ mt_T := mt_m2 118 rfl rfl
theorem mw_la_X2_X2_isCrossing : (Cond.lays "MountTable$Mount" "MountTable$Mount" "isCrossing" "Z") ∈ mt_T := mt_m2 120 rfl rfl
theorem mw_ml_X3_90 : (Cond.methodLink "MountTable" (90 : Nat) ({ cls := "MountTable", name := "serveAgain", desc := "()V" } : MethodName)) ∈ mt_T := mt_m2 123 rfl rfl
theorem mw_im_X3_serveAgain : (Cond.instanceMethod ({ cls := "MountTable", name := "serveAgain", desc := "()V" } : MethodName)) ∈ mt_T := mt_m2 125 rfl rfl
theorem mw_co_X3_serveAgain : (Cond.code ({ cls := "MountTable", name := "serveAgain", desc := "()V" } : MethodName) prog_1_method_46_code (3 : Nat) (Option.none : Option ClassFile.FieldType)) ∈ mt_T := mt_m2 126 rfl rfl
theorem mw_ml_X3_268 : (Cond.methodLink "MountTable" (268 : Nat) ({ cls := "MountTable", name := "serveBehind", desc := "(II)V" } : MethodName)) ∈ mt_T := mt_m2 127 rfl rfl
theorem mw_im_X3_serveBehind : (Cond.instanceMethod ({ cls := "MountTable", name := "serveBehind", desc := "(II)V" } : MethodName)) ∈ mt_T := mt_m2 129 rfl rfl
theorem mw_co_X3_serveBehind : (Cond.code ({ cls := "MountTable", name := "serveBehind", desc := "(II)V" } : MethodName) prog_1_method_47_code (9 : Nat) (Option.none : Option ClassFile.FieldType)) ∈ mt_T := mt_m2 130 rfl rfl
theorem mw_ml_L_116 : (Cond.methodLink "MountTableLaw" (116 : Nat) ({ cls := "MountTableLaw", name := "unmount", desc := "(LMountTable;I[J)I" } : MethodName)) ∈ mt_T := mt_m2 131 rfl rfl
theorem mw_st_L_unmount : (Cond.static ({ cls := "MountTableLaw", name := "unmount", desc := "(LMountTable;I[J)I" } : MethodName)) ∈ mt_T := mt_m2 132 rfl rfl
theorem mw_cw_L_unmount : (Cond.codeWith ({ cls := "MountTableLaw", name := "unmount", desc := "(LMountTable;I[J)I" } : MethodName) method_5_code (4 : Nat) (Option.some ClassFile.FieldType.int) [((0 : Nat), (9 : Nat), (12 : Nat), (21 : Nat))]) ∈ mt_T := mt_m2 133 rfl rfl
theorem mw_ml_L_25 : (Cond.methodLink "MountTableLaw" (25 : Nat) ({ cls := "MountTable", name := "unmount", desc := "(I)I" } : MethodName)) ∈ mt_T := mt_m2 134 rfl rfl
theorem mw_im_X3_unmount : (Cond.instanceMethod ({ cls := "MountTable", name := "unmount", desc := "(I)I" } : MethodName)) ∈ mt_T := mt_m2 135 rfl rfl
theorem mw_se_X3_X3_unmount : (Cond.selects "MountTable" ({ cls := "MountTable", name := "unmount", desc := "(I)I" } : MethodName) ({ cls := "MountTable", name := "unmount", desc := "(I)I" } : MethodName)) ∈ mt_T := mt_m2 136 rfl rfl
theorem mw_co_X3_unmount : (Cond.code ({ cls := "MountTable", name := "unmount", desc := "(I)I" } : MethodName) prog_1_method_4_code (4 : Nat) (Option.some ClassFile.FieldType.int)) ∈ mt_T := mt_m2 137 rfl rfl
theorem mw_ml_X3_93 : (Cond.methodLink "MountTable" (93 : Nat) ({ cls := "MountTable", name := "checkedMount", desc := "(I)LMountTable$Mount;" } : MethodName)) ∈ mt_T := mt_m2 138 rfl rfl
theorem mw_im_X3_checkedMount : (Cond.instanceMethod ({ cls := "MountTable", name := "checkedMount", desc := "(I)LMountTable$Mount;" } : MethodName)) ∈ mt_T := mt_m2 140 rfl rfl
theorem mw_co_X3_checkedMount : (Cond.code ({ cls := "MountTable", name := "checkedMount", desc := "(I)LMountTable$Mount;" } : MethodName) prog_1_method_42_code (3 : Nat) (Option.some (ClassFile.FieldType.object "MountTable$Mount"))) ∈ mt_T := mt_m2 141 rfl rfl
theorem mw_ml_L_120 : (Cond.methodLink "MountTableLaw" (120 : Nat) ({ cls := "MountTableLaw", name := "move", desc := "(LMountTable;II[J)I" } : MethodName)) ∈ mt_T := mt_m2 143 rfl rfl
theorem mw_st_L_move : (Cond.static ({ cls := "MountTableLaw", name := "move", desc := "(LMountTable;II[J)I" } : MethodName)) ∈ mt_T := mt_m2 144 rfl rfl
theorem mw_cw_L_move : (Cond.codeWith ({ cls := "MountTableLaw", name := "move", desc := "(LMountTable;II[J)I" } : MethodName) method_6_code (5 : Nat) (Option.some ClassFile.FieldType.int) [((0 : Nat), (10 : Nat), (13 : Nat), (21 : Nat)), ((0 : Nat), (10 : Nat), (17 : Nat), (19 : Nat))]) ∈ mt_T := mt_m2 145 rfl rfl
theorem mw_ml_L_29 : (Cond.methodLink "MountTableLaw" (29 : Nat) ({ cls := "MountTable", name := "move", desc := "(II)I" } : MethodName)) ∈ mt_T := mt_m2 146 rfl rfl
theorem mw_im_X3_move : (Cond.instanceMethod ({ cls := "MountTable", name := "move", desc := "(II)I" } : MethodName)) ∈ mt_T := mt_m2 147 rfl rfl
theorem mw_se_X3_X3_move : (Cond.selects "MountTable" ({ cls := "MountTable", name := "move", desc := "(II)I" } : MethodName) ({ cls := "MountTable", name := "move", desc := "(II)I" } : MethodName)) ∈ mt_T := mt_m2 148 rfl rfl
theorem mw_co_X3_move : (Cond.code ({ cls := "MountTable", name := "move", desc := "(II)I" } : MethodName) prog_1_method_5_code (5 : Nat) (Option.some ClassFile.FieldType.int)) ∈ mt_T := mt_m2 149 rfl rfl
theorem mw_ml_X3_104 : (Cond.methodLink "MountTable" (104 : Nat) ({ cls := "MountTable", name := "checkedPlace", desc := "(I)I" } : MethodName)) ∈ mt_T := mt_m2 150 rfl rfl
theorem mw_st_X3_checkedPlace : (Cond.static ({ cls := "MountTable", name := "checkedPlace", desc := "(I)I" } : MethodName)) ∈ mt_T := mt_m2 151 rfl rfl
theorem mw_co_X3_checkedPlace : (Cond.code ({ cls := "MountTable", name := "checkedPlace", desc := "(I)I" } : MethodName) prog_1_method_31_code (2 : Nat) (Option.some ClassFile.FieldType.int)) ∈ mt_T := mt_m2 152 rfl rfl
theorem mw_ml_L_124 : (Cond.methodLink "MountTableLaw" (124 : Nat) ({ cls := "MountTableLaw", name := "setCrossing", desc := "(LMountTable;IZ[J)I" } : MethodName)) ∈ mt_T := mt_m2 154 rfl rfl
theorem mw_st_L_setCrossing : (Cond.static ({ cls := "MountTableLaw", name := "setCrossing", desc := "(LMountTable;IZ[J)I" } : MethodName)) ∈ mt_T := mt_m2 155 rfl rfl
theorem mw_cw_L_setCrossing : (Cond.codeWith ({ cls := "MountTableLaw", name := "setCrossing", desc := "(LMountTable;IZ[J)I" } : MethodName) method_7_code (5 : Nat) (Option.some ClassFile.FieldType.int) [((0 : Nat), (17 : Nat), (20 : Nat), (21 : Nat))]) ∈ mt_T := mt_m2 156 rfl rfl
theorem mw_ml_L_33 : (Cond.methodLink "MountTableLaw" (33 : Nat) ({ cls := "MountTable", name := "setCrossing", desc := "(IZ)Z" } : MethodName)) ∈ mt_T := mt_m2 157 rfl rfl
theorem mw_im_X3_setCrossing : (Cond.instanceMethod ({ cls := "MountTable", name := "setCrossing", desc := "(IZ)Z" } : MethodName)) ∈ mt_T := mt_m2 158 rfl rfl
theorem mw_se_X3_X3_setCrossing : (Cond.selects "MountTable" ({ cls := "MountTable", name := "setCrossing", desc := "(IZ)Z" } : MethodName) ({ cls := "MountTable", name := "setCrossing", desc := "(IZ)Z" } : MethodName)) ∈ mt_T := mt_m2 159 rfl rfl
theorem mw_co_X3_setCrossing : (Cond.code ({ cls := "MountTable", name := "setCrossing", desc := "(IZ)Z" } : MethodName) prog_1_method_6_code (5 : Nat) (Option.some ClassFile.FieldType.boolean)) ∈ mt_T := mt_m2 160 rfl rfl
theorem mw_ml_L_128 : (Cond.methodLink "MountTableLaw" (128 : Nat) ({ cls := "MountTableLaw", name := "served", desc := "(LMountTable;I[J)I" } : MethodName)) ∈ mt_T := mt_m2 161 rfl rfl
theorem mw_st_L_served : (Cond.static ({ cls := "MountTableLaw", name := "served", desc := "(LMountTable;I[J)I" } : MethodName)) ∈ mt_T := mt_m2 162 rfl rfl
theorem mw_cw_L_served : (Cond.codeWith ({ cls := "MountTableLaw", name := "served", desc := "(LMountTable;I[J)I" } : MethodName) method_8_code (4 : Nat) (Option.some ClassFile.FieldType.int) [((0 : Nat), (9 : Nat), (12 : Nat), (19 : Nat)), ((0 : Nat), (9 : Nat), (15 : Nat), (40 : Nat))]) ∈ mt_T := mt_m2 163 rfl rfl
theorem mw_cl_L_40 : (Cond.classLink "MountTableLaw" (40 : Nat) "java/util/NoSuchElementException") ∈ mt_T := mt_m2 164 rfl rfl
theorem mw_ml_L_37 : (Cond.methodLink "MountTableLaw" (37 : Nat) ({ cls := "MountTable", name := "served", desc := "(I)I" } : MethodName)) ∈ mt_T := mt_m2 165 rfl rfl
theorem mw_im_X3_served : (Cond.instanceMethod ({ cls := "MountTable", name := "served", desc := "(I)I" } : MethodName)) ∈ mt_T := mt_m2 166 rfl rfl
theorem mw_se_X3_X3_served : (Cond.selects "MountTable" ({ cls := "MountTable", name := "served", desc := "(I)I" } : MethodName) ({ cls := "MountTable", name := "served", desc := "(I)I" } : MethodName)) ∈ mt_T := mt_m2 167 rfl rfl
theorem mw_co_X3_served : (Cond.code ({ cls := "MountTable", name := "served", desc := "(I)I" } : MethodName) prog_1_method_7_code (3 : Nat) (Option.some ClassFile.FieldType.int)) ∈ mt_T := mt_m2 168 rfl rfl
theorem mw_cl_X3_116 : (Cond.classLink "MountTable" (116 : Nat) "java/util/NoSuchElementException") ∈ mt_T := mt_m2 169 rfl rfl
theorem mw_ii_java_util_NoSuchElementException : (Cond.instantiable "java/util/NoSuchElementException" (6 : Nat)) ∈ mt_T := mt_m2 170 rfl rfl
theorem mw_ca_java_util_NoSuchElementException_java_util_NoSuchElementException : (Cond.castable "java/util/NoSuchElementException" "java/util/NoSuchElementException") ∈ mt_bw := mt_b2 171 rfl rfl
theorem mw_se_java_util_NoSuchElementException_java_lang_Throwable_fillInStackTrace_I_Ljava_lang_Throwable_ : (Cond.selects "java/util/NoSuchElementException" ({ cls := "java/lang/Throwable", name := "fillInStackTrace", desc := "(I)Ljava/lang/Throwable;" } : MethodName) ({ cls := "java/lang/Throwable", name := "fillInStackTrace", desc := "(I)Ljava/lang/Throwable;" } : MethodName)) ∈ mt_T := mt_m2 172 rfl rfl
theorem mw_la_java_util_NoSuchElementException_java_lang_Throwable_cause : (Cond.lays "java/util/NoSuchElementException" "java/lang/Throwable" "cause" "Ljava/lang/Throwable;") ∈ mt_T := mt_m2 173 rfl rfl
theorem mw_la_java_util_NoSuchElementException_java_lang_Throwable_stackTrace : (Cond.lays "java/util/NoSuchElementException" "java/lang/Throwable" "stackTrace" "[Ljava/lang/StackTraceElement;") ∈ mt_T := mt_m2 174 rfl rfl
theorem mw_la_java_util_NoSuchElementException_java_lang_Throwable_suppressedExceptions : (Cond.lays "java/util/NoSuchElementException" "java/lang/Throwable" "suppressedExceptions" "Ljava/util/List;") ∈ mt_T := mt_m2 175 rfl rfl
theorem mw_la_java_util_NoSuchElementException_java_lang_Throwable_detailMessage : (Cond.lays "java/util/NoSuchElementException" "java/lang/Throwable" "detailMessage" "Ljava/lang/String;") ∈ mt_T := mt_m2 176 rfl rfl
theorem mw_la_java_util_NoSuchElementException_java_lang_Throwable_backtrace : (Cond.lays "java/util/NoSuchElementException" "java/lang/Throwable" "backtrace" "Ljava/lang/Object;") ∈ mt_T := mt_m2 177 rfl rfl
theorem mw_ml_X3_120 : (Cond.methodLink "MountTable" (120 : Nat) ({ cls := "java/util/NoSuchElementException", name := "<init>", desc := "(Ljava/lang/String;)V" } : MethodName)) ∈ mt_T := mt_m2 179 rfl rfl
theorem mw_im_java_util_NoSuchElementException__init__Ljava_lang_String__V : (Cond.instanceMethod ({ cls := "java/util/NoSuchElementException", name := "<init>", desc := "(Ljava/lang/String;)V" } : MethodName)) ∈ mt_T := mt_m2 180 rfl rfl
theorem mw_co_java_util_NoSuchElementException__init__Ljava_lang_String__V : (Cond.code ({ cls := "java/util/NoSuchElementException", name := "<init>", desc := "(Ljava/lang/String;)V" } : MethodName) prog_17_method_4_code (2 : Nat) (Option.none : Option ClassFile.FieldType)) ∈ mt_T := mt_m2 181 rfl rfl
theorem mw_ml_java_util_NoSuchElementException_13 : (Cond.methodLink "java/util/NoSuchElementException" (13 : Nat) ({ cls := "java/lang/RuntimeException", name := "<init>", desc := "(Ljava/lang/String;)V" } : MethodName)) ∈ mt_T := mt_m2 182 rfl rfl
theorem mw_la_java_util_NoSuchElementException_java_lang_Throwable_depth : (Cond.lays "java/util/NoSuchElementException" "java/lang/Throwable" "depth" "I") ∈ mt_T := mt_m2 183 rfl rfl
theorem mw_ml_L_135 : (Cond.methodLink "MountTableLaw" (135 : Nat) ({ cls := "MountTableLaw", name := "write", desc := "(LMountTable;III[J)I" } : MethodName)) ∈ mt_T := mt_m2 185 rfl rfl
theorem mw_st_L_write : (Cond.static ({ cls := "MountTableLaw", name := "write", desc := "(LMountTable;III[J)I" } : MethodName)) ∈ mt_T := mt_m2 186 rfl rfl
theorem mw_cw_L_write : (Cond.codeWith ({ cls := "MountTableLaw", name := "write", desc := "(LMountTable;III[J)I" } : MethodName) method_9_code (6 : Nat) (Option.some ClassFile.FieldType.int) [((0 : Nat), (12 : Nat), (15 : Nat), (19 : Nat)), ((0 : Nat), (12 : Nat), (19 : Nat), (40 : Nat)), ((0 : Nat), (12 : Nat), (23 : Nat), (23 : Nat))]) ∈ mt_T := mt_m2 187 rfl rfl
theorem mw_ml_L_42 : (Cond.methodLink "MountTableLaw" (42 : Nat) ({ cls := "MountTable", name := "write", desc := "(III)I" } : MethodName)) ∈ mt_T := mt_m2 188 rfl rfl
theorem mw_im_X3_write : (Cond.instanceMethod ({ cls := "MountTable", name := "write", desc := "(III)I" } : MethodName)) ∈ mt_T := mt_m2 189 rfl rfl
theorem mw_se_X3_X3_write : (Cond.selects "MountTable" ({ cls := "MountTable", name := "write", desc := "(III)I" } : MethodName) ({ cls := "MountTable", name := "write", desc := "(III)I" } : MethodName)) ∈ mt_T := mt_m2 190 rfl rfl
theorem mw_co_X3_write : (Cond.code ({ cls := "MountTable", name := "write", desc := "(III)I" } : MethodName) prog_1_method_9_code (7 : Nat) (Option.some ClassFile.FieldType.int)) ∈ mt_T := mt_m2 191 rfl rfl
theorem mw_ml_X3_121 : (Cond.methodLink "MountTable" (121 : Nat) ({ cls := "MountTable", name := "checkOwner", desc := "(I)V" } : MethodName)) ∈ mt_T := mt_m2 192 rfl rfl
theorem mw_st_X3_checkOwner : (Cond.static ({ cls := "MountTable", name := "checkOwner", desc := "(I)V" } : MethodName)) ∈ mt_T := mt_m2 193 rfl rfl
theorem mw_co_X3_checkOwner : (Cond.code ({ cls := "MountTable", name := "checkOwner", desc := "(I)V" } : MethodName) prog_1_method_34_code (1 : Nat) (Option.none : Option ClassFile.FieldType)) ∈ mt_T := mt_m2 194 rfl rfl
theorem mw_ml_X3_127 : (Cond.methodLink "MountTable" (127 : Nat) ({ cls := "MountTable", name := "layerToWrite", desc := "(I)LMountTable$Layer;" } : MethodName)) ∈ mt_T := mt_m2 197 rfl rfl
theorem mw_im_X3_layerToWrite : (Cond.instanceMethod ({ cls := "MountTable", name := "layerToWrite", desc := "(I)LMountTable$Layer;" } : MethodName)) ∈ mt_T := mt_m2 199 rfl rfl
theorem mw_co_X3_layerToWrite : (Cond.code ({ cls := "MountTable", name := "layerToWrite", desc := "(I)LMountTable$Layer;" } : MethodName) prog_1_method_61_code (4 : Nat) (Option.some (ClassFile.FieldType.object "MountTable$Layer"))) ∈ mt_T := mt_m2 200 rfl rfl
theorem mw_ml_X3_170 : (Cond.methodLink "MountTable" (170 : Nat) ({ cls := "MountTable$Mount", name := "written", desc := "()I" } : MethodName)) ∈ mt_T := mt_m2 201 rfl rfl
theorem mw_im_X2_written : (Cond.instanceMethod ({ cls := "MountTable$Mount", name := "written", desc := "()I" } : MethodName)) ∈ mt_T := mt_m2 202 rfl rfl
theorem mw_se_X2_X2_written : (Cond.selects "MountTable$Mount" ({ cls := "MountTable$Mount", name := "written", desc := "()I" } : MethodName) ({ cls := "MountTable$Mount", name := "written", desc := "()I" } : MethodName)) ∈ mt_T := mt_m2 203 rfl rfl
theorem mw_co_X2_written : (Cond.code ({ cls := "MountTable$Mount", name := "written", desc := "()I" } : MethodName) prog_4_method_2_code (1 : Nat) (Option.some ClassFile.FieldType.int)) ∈ mt_T := mt_m2 204 rfl rfl
theorem mw_ml_X3_136 : (Cond.methodLink "MountTable" (136 : Nat) ({ cls := "MountTable$Layer", name := "bytesOfOwnerAt", desc := "(II)I" } : MethodName)) ∈ mt_T := mt_m2 206 rfl rfl
theorem mw_im_X1_bytesOfOwnerAt : (Cond.instanceMethod ({ cls := "MountTable$Layer", name := "bytesOfOwnerAt", desc := "(II)I" } : MethodName)) ∈ mt_T := mt_m2 207 rfl rfl
theorem mw_se_X1_X1_bytesOfOwnerAt : (Cond.selects "MountTable$Layer" ({ cls := "MountTable$Layer", name := "bytesOfOwnerAt", desc := "(II)I" } : MethodName) ({ cls := "MountTable$Layer", name := "bytesOfOwnerAt", desc := "(II)I" } : MethodName)) ∈ mt_T := mt_m2 208 rfl rfl
theorem mw_co_X1_bytesOfOwnerAt : (Cond.code ({ cls := "MountTable$Layer", name := "bytesOfOwnerAt", desc := "(II)I" } : MethodName) prog_3_method_7_code (3 : Nat) (Option.some ClassFile.FieldType.int)) ∈ mt_T := mt_m2 209 rfl rfl
theorem mw_ml_X1_32 : (Cond.methodLink "MountTable$Layer" (32 : Nat) ({ cls := "MountTable$Layer", name := "ownerAt", desc := "(I)I" } : MethodName)) ∈ mt_T := mt_m2 210 rfl rfl
theorem mw_im_X1_ownerAt : (Cond.instanceMethod ({ cls := "MountTable$Layer", name := "ownerAt", desc := "(I)I" } : MethodName)) ∈ mt_T := mt_m2 211 rfl rfl
theorem mw_se_X1_X1_ownerAt : (Cond.selects "MountTable$Layer" ({ cls := "MountTable$Layer", name := "ownerAt", desc := "(I)I" } : MethodName) ({ cls := "MountTable$Layer", name := "ownerAt", desc := "(I)I" } : MethodName)) ∈ mt_T := mt_m2 212 rfl rfl
theorem mw_co_X1_ownerAt : (Cond.code ({ cls := "MountTable$Layer", name := "ownerAt", desc := "(I)I" } : MethodName) prog_3_method_3_code (2 : Nat) (Option.some ClassFile.FieldType.int)) ∈ mt_T := mt_m2 213 rfl rfl
theorem mw_ml_X3_140 : (Cond.methodLink "MountTable" (140 : Nat) ({ cls := "MountTable", name := "quotaOf", desc := "(I)I" } : MethodName)) ∈ mt_T := mt_m2 214 rfl rfl
theorem mw_im_X3_quotaOf : (Cond.instanceMethod ({ cls := "MountTable", name := "quotaOf", desc := "(I)I" } : MethodName)) ∈ mt_T := mt_m2 216 rfl rfl
theorem mw_co_X3_quotaOf : (Cond.code ({ cls := "MountTable", name := "quotaOf", desc := "(I)I" } : MethodName) prog_1_method_36_code (2 : Nat) (Option.some ClassFile.FieldType.int)) ∈ mt_T := mt_m2 217 rfl rfl
theorem mw_ml_X3_145 : (Cond.methodLink "MountTable" (145 : Nat) ({ cls := "MountTable", name := "putAt", desc := "(ILMountTable$Layer;III)V" } : MethodName)) ∈ mt_T := mt_m2 219 rfl rfl
theorem mw_im_X3_putAt : (Cond.instanceMethod ({ cls := "MountTable", name := "putAt", desc := "(ILMountTable$Layer;III)V" } : MethodName)) ∈ mt_T := mt_m2 221 rfl rfl
theorem mw_co_X3_putAt : (Cond.code ({ cls := "MountTable", name := "putAt", desc := "(ILMountTable$Layer;III)V" } : MethodName) prog_1_method_62_code (7 : Nat) (Option.none : Option ClassFile.FieldType)) ∈ mt_T := mt_m2 222 rfl rfl
theorem mw_ml_X3_174 : (Cond.methodLink "MountTable" (174 : Nat) ({ cls := "MountTable", name := "change", desc := "(LMountTable$Layer;IIII)V" } : MethodName)) ∈ mt_T := mt_m2 223 rfl rfl
theorem mw_im_X3_change : (Cond.instanceMethod ({ cls := "MountTable", name := "change", desc := "(LMountTable$Layer;IIII)V" } : MethodName)) ∈ mt_T := mt_m2 225 rfl rfl
theorem mw_co_X3_change : (Cond.code ({ cls := "MountTable", name := "change", desc := "(LMountTable$Layer;IIII)V" } : MethodName) prog_1_method_63_code (6 : Nat) (Option.none : Option ClassFile.FieldType)) ∈ mt_T := mt_m2 226 rfl rfl
theorem mw_ml_X3_201 : (Cond.methodLink "MountTable" (201 : Nat) ({ cls := "MountTable$Layer", name := "ownerAt", desc := "(I)I" } : MethodName)) ∈ mt_T := mt_m2 227 rfl rfl
theorem mw_ml_X3_155 : (Cond.methodLink "MountTable" (155 : Nat) ({ cls := "MountTable$Layer", name := "bytesAt", desc := "(I)I" } : MethodName)) ∈ mt_T := mt_m2 228 rfl rfl
theorem mw_ml_X3_300 : (Cond.methodLink "MountTable" (300 : Nat) ({ cls := "MountTable", name := "use", desc := "(II)V" } : MethodName)) ∈ mt_T := mt_m2 229 rfl rfl
theorem mw_im_X3_use : (Cond.instanceMethod ({ cls := "MountTable", name := "use", desc := "(II)V" } : MethodName)) ∈ mt_T := mt_m2 231 rfl rfl
theorem mw_co_X3_use : (Cond.code ({ cls := "MountTable", name := "use", desc := "(II)V" } : MethodName) prog_1_method_37_code (3 : Nat) (Option.none : Option ClassFile.FieldType)) ∈ mt_T := mt_m2 232 rfl rfl
theorem mw_ml_X3_303 : (Cond.methodLink "MountTable" (303 : Nat) ({ cls := "MountTable$Layer", name := "put", desc := "(IIII)V" } : MethodName)) ∈ mt_T := mt_m2 233 rfl rfl
theorem mw_im_X1_put : (Cond.instanceMethod ({ cls := "MountTable$Layer", name := "put", desc := "(IIII)V" } : MethodName)) ∈ mt_T := mt_m2 234 rfl rfl
theorem mw_se_X1_X1_put : (Cond.selects "MountTable$Layer" ({ cls := "MountTable$Layer", name := "put", desc := "(IIII)V" } : MethodName) ({ cls := "MountTable$Layer", name := "put", desc := "(IIII)V" } : MethodName)) ∈ mt_T := mt_m2 235 rfl rfl
theorem mw_co_X1_put : (Cond.code ({ cls := "MountTable$Layer", name := "put", desc := "(IIII)V" } : MethodName) prog_3_method_8_code (5 : Nat) (Option.none : Option ClassFile.FieldType)) ∈ mt_T := mt_m2 236 rfl rfl
theorem mw_ml_L_138 : (Cond.methodLink "MountTableLaw" (138 : Nat) ({ cls := "MountTableLaw", name := "link", desc := "(LMountTable;III[J)I" } : MethodName)) ∈ mt_T := mt_m2 237 rfl rfl
theorem mw_st_L_link : (Cond.static ({ cls := "MountTableLaw", name := "link", desc := "(LMountTable;III[J)I" } : MethodName)) ∈ mt_T := mt_m2 238 rfl rfl
theorem mw_cw_L_link : (Cond.codeWith ({ cls := "MountTableLaw", name := "link", desc := "(LMountTable;III[J)I" } : MethodName) method_10_code (6 : Nat) (Option.some ClassFile.FieldType.int) [((0 : Nat), (12 : Nat), (15 : Nat), (19 : Nat)), ((0 : Nat), (12 : Nat), (19 : Nat), (40 : Nat))]) ∈ mt_T := mt_m2 239 rfl rfl
theorem mw_ml_L_45 : (Cond.methodLink "MountTableLaw" (45 : Nat) ({ cls := "MountTable", name := "link", desc := "(III)I" } : MethodName)) ∈ mt_T := mt_m3 0 rfl rfl
theorem mw_im_X3_link : (Cond.instanceMethod ({ cls := "MountTable", name := "link", desc := "(III)I" } : MethodName)) ∈ mt_T := mt_m3 1 rfl rfl
theorem mw_se_X3_X3_link : (Cond.selects "MountTable" ({ cls := "MountTable", name := "link", desc := "(III)I" } : MethodName) ({ cls := "MountTable", name := "link", desc := "(III)I" } : MethodName)) ∈ mt_T := mt_m3 2 rfl rfl
theorem mw_co_X3_link : (Cond.code ({ cls := "MountTable", name := "link", desc := "(III)I" } : MethodName) prog_1_method_10_code (8 : Nat) (Option.some ClassFile.FieldType.int)) ∈ mt_T := mt_m3 3 rfl rfl
theorem mw_ml_X3_149 : (Cond.methodLink "MountTable" (149 : Nat) ({ cls := "MountTable$Layer", name := "countOf", desc := "(I)I" } : MethodName)) ∈ mt_T := mt_m3 4 rfl rfl
theorem mw_im_X1_countOf : (Cond.instanceMethod ({ cls := "MountTable$Layer", name := "countOf", desc := "(I)I" } : MethodName)) ∈ mt_T := mt_m3 5 rfl rfl
theorem mw_se_X1_X1_countOf : (Cond.selects "MountTable$Layer" ({ cls := "MountTable$Layer", name := "countOf", desc := "(I)I" } : MethodName) ({ cls := "MountTable$Layer", name := "countOf", desc := "(I)I" } : MethodName)) ∈ mt_T := mt_m3 6 rfl rfl
theorem mw_co_X1_countOf : (Cond.code ({ cls := "MountTable$Layer", name := "countOf", desc := "(I)I" } : MethodName) prog_3_method_9_code (4 : Nat) (Option.some ClassFile.FieldType.int)) ∈ mt_T := mt_m3 7 rfl rfl
theorem mw_ml_L_141 : (Cond.methodLink "MountTableLaw" (141 : Nat) ({ cls := "MountTableLaw", name := "remove", desc := "(LMountTable;I[J)I" } : MethodName)) ∈ mt_T := mt_m3 8 rfl rfl
theorem mw_st_L_remove : (Cond.static ({ cls := "MountTableLaw", name := "remove", desc := "(LMountTable;I[J)I" } : MethodName)) ∈ mt_T := mt_m3 9 rfl rfl
theorem mw_cw_L_remove : (Cond.codeWith ({ cls := "MountTableLaw", name := "remove", desc := "(LMountTable;I[J)I" } : MethodName) method_11_code (4 : Nat) (Option.some ClassFile.FieldType.int) [((0 : Nat), (9 : Nat), (12 : Nat), (19 : Nat)), ((0 : Nat), (9 : Nat), (15 : Nat), (40 : Nat))]) ∈ mt_T := mt_m3 10 rfl rfl
theorem mw_ml_L_48 : (Cond.methodLink "MountTableLaw" (48 : Nat) ({ cls := "MountTable", name := "remove", desc := "(I)I" } : MethodName)) ∈ mt_T := mt_m3 11 rfl rfl
theorem mw_im_X3_remove : (Cond.instanceMethod ({ cls := "MountTable", name := "remove", desc := "(I)I" } : MethodName)) ∈ mt_T := mt_m3 12 rfl rfl
theorem mw_se_X3_X3_remove : (Cond.selects "MountTable" ({ cls := "MountTable", name := "remove", desc := "(I)I" } : MethodName) ({ cls := "MountTable", name := "remove", desc := "(I)I" } : MethodName)) ∈ mt_T := mt_m3 13 rfl rfl
theorem mw_co_X3_remove : (Cond.code ({ cls := "MountTable", name := "remove", desc := "(I)I" } : MethodName) prog_1_method_11_code (7 : Nat) (Option.some ClassFile.FieldType.int)) ∈ mt_T := mt_m3 14 rfl rfl
theorem mw_ml_X3_152 : (Cond.methodLink "MountTable" (152 : Nat) ({ cls := "MountTable", name := "checkedShown", desc := "(I)LMountTable$Layer;" } : MethodName)) ∈ mt_T := mt_m3 15 rfl rfl
theorem mw_im_X3_checkedShown : (Cond.instanceMethod ({ cls := "MountTable", name := "checkedShown", desc := "(I)LMountTable$Layer;" } : MethodName)) ∈ mt_T := mt_m3 17 rfl rfl
theorem mw_co_X3_checkedShown : (Cond.code ({ cls := "MountTable", name := "checkedShown", desc := "(I)LMountTable$Layer;" } : MethodName) prog_1_method_55_code (3 : Nat) (Option.some (ClassFile.FieldType.object "MountTable$Layer"))) ∈ mt_T := mt_m3 18 rfl rfl
theorem mw_ml_L_144 : (Cond.methodLink "MountTableLaw" (144 : Nat) ({ cls := "MountTableLaw", name := "shows", desc := "(LMountTable;I[J)I" } : MethodName)) ∈ mt_T := mt_m3 20 rfl rfl
theorem mw_st_L_shows : (Cond.static ({ cls := "MountTableLaw", name := "shows", desc := "(LMountTable;I[J)I" } : MethodName)) ∈ mt_T := mt_m3 21 rfl rfl
theorem mw_cw_L_shows : (Cond.codeWith ({ cls := "MountTableLaw", name := "shows", desc := "(LMountTable;I[J)I" } : MethodName) method_12_code (4 : Nat) (Option.some ClassFile.FieldType.int) [((0 : Nat), (9 : Nat), (12 : Nat), (19 : Nat))]) ∈ mt_T := mt_m3 22 rfl rfl
theorem mw_ml_L_51 : (Cond.methodLink "MountTableLaw" (51 : Nat) ({ cls := "MountTable", name := "shows", desc := "(I)C" } : MethodName)) ∈ mt_T := mt_m3 23 rfl rfl
theorem mw_im_X3_shows : (Cond.instanceMethod ({ cls := "MountTable", name := "shows", desc := "(I)C" } : MethodName)) ∈ mt_T := mt_m3 24 rfl rfl
theorem mw_se_X3_X3_shows : (Cond.selects "MountTable" ({ cls := "MountTable", name := "shows", desc := "(I)C" } : MethodName) ({ cls := "MountTable", name := "shows", desc := "(I)C" } : MethodName)) ∈ mt_T := mt_m3 25 rfl rfl
theorem mw_co_X3_shows : (Cond.code ({ cls := "MountTable", name := "shows", desc := "(I)C" } : MethodName) prog_1_method_12_code (3 : Nat) (Option.some ClassFile.FieldType.char)) ∈ mt_T := mt_m3 26 rfl rfl
theorem mw_ml_L_147 : (Cond.methodLink "MountTableLaw" (147 : Nat) ({ cls := "MountTableLaw", name := "layerOf", desc := "(LMountTable;I[J)I" } : MethodName)) ∈ mt_T := mt_m3 27 rfl rfl
theorem mw_st_L_layerOf : (Cond.static ({ cls := "MountTableLaw", name := "layerOf", desc := "(LMountTable;I[J)I" } : MethodName)) ∈ mt_T := mt_m3 28 rfl rfl
theorem mw_cw_L_layerOf : (Cond.codeWith ({ cls := "MountTableLaw", name := "layerOf", desc := "(LMountTable;I[J)I" } : MethodName) method_13_code (4 : Nat) (Option.some ClassFile.FieldType.int) [((0 : Nat), (9 : Nat), (12 : Nat), (19 : Nat)), ((0 : Nat), (9 : Nat), (15 : Nat), (40 : Nat))]) ∈ mt_T := mt_m3 29 rfl rfl
theorem mw_ml_L_55 : (Cond.methodLink "MountTableLaw" (55 : Nat) ({ cls := "MountTable", name := "layerOf", desc := "(I)I" } : MethodName)) ∈ mt_T := mt_m3 30 rfl rfl
theorem mw_im_X3_layerOf : (Cond.instanceMethod ({ cls := "MountTable", name := "layerOf", desc := "(I)I" } : MethodName)) ∈ mt_T := mt_m3 31 rfl rfl
theorem mw_se_X3_X3_layerOf : (Cond.selects "MountTable" ({ cls := "MountTable", name := "layerOf", desc := "(I)I" } : MethodName) ({ cls := "MountTable", name := "layerOf", desc := "(I)I" } : MethodName)) ∈ mt_T := mt_m3 32 rfl rfl
theorem mw_co_X3_layerOf : (Cond.code ({ cls := "MountTable", name := "layerOf", desc := "(I)I" } : MethodName) prog_1_method_13_code (3 : Nat) (Option.some ClassFile.FieldType.int)) ∈ mt_T := mt_m3 33 rfl rfl
theorem mw_ml_L_150 : (Cond.methodLink "MountTableLaw" (150 : Nat) ({ cls := "MountTableLaw", name := "end", desc := "(LMountTable;I[J)I" } : MethodName)) ∈ mt_T := mt_m3 34 rfl rfl
theorem mw_st_L_end : (Cond.static ({ cls := "MountTableLaw", name := "end", desc := "(LMountTable;I[J)I" } : MethodName)) ∈ mt_T := mt_m3 35 rfl rfl
theorem mw_cw_L_end : (Cond.codeWith ({ cls := "MountTableLaw", name := "end", desc := "(LMountTable;I[J)I" } : MethodName) method_14_code (4 : Nat) (Option.some ClassFile.FieldType.int) [((0 : Nat), (9 : Nat), (12 : Nat), (19 : Nat)), ((0 : Nat), (9 : Nat), (15 : Nat), (23 : Nat)), ((0 : Nat), (9 : Nat), (18 : Nat), (13 : Nat))]) ∈ mt_T := mt_m3 36 rfl rfl
theorem mw_ml_L_58 : (Cond.methodLink "MountTableLaw" (58 : Nat) ({ cls := "MountTable", name := "end", desc := "(I)I" } : MethodName)) ∈ mt_T := mt_m3 37 rfl rfl
theorem mw_im_X3_end : (Cond.instanceMethod ({ cls := "MountTable", name := "end", desc := "(I)I" } : MethodName)) ∈ mt_T := mt_m3 38 rfl rfl
theorem mw_se_X3_X3_end : (Cond.selects "MountTable" ({ cls := "MountTable", name := "end", desc := "(I)I" } : MethodName) ({ cls := "MountTable", name := "end", desc := "(I)I" } : MethodName)) ∈ mt_T := mt_m3 39 rfl rfl
theorem mw_co_X3_end : (Cond.code ({ cls := "MountTable", name := "end", desc := "(I)I" } : MethodName) prog_1_method_14_code (2 : Nat) (Option.some ClassFile.FieldType.int)) ∈ mt_T := mt_m3 40 rfl rfl
theorem mw_ml_X3_183 : (Cond.methodLink "MountTable" (183 : Nat) ({ cls := "MountTable", name := "endOfLinks", desc := "(I)I" } : MethodName)) ∈ mt_T := mt_m3 41 rfl rfl
theorem mw_im_X3_endOfLinks : (Cond.instanceMethod ({ cls := "MountTable", name := "endOfLinks", desc := "(I)I" } : MethodName)) ∈ mt_T := mt_m3 43 rfl rfl
theorem mw_co_X3_endOfLinks : (Cond.code ({ cls := "MountTable", name := "endOfLinks", desc := "(I)I" } : MethodName) prog_1_method_59_code (7 : Nat) (Option.some ClassFile.FieldType.int)) ∈ mt_T := mt_m3 44 rfl rfl
theorem mw_ml_X3_287 : (Cond.methodLink "MountTable" (287 : Nat) ({ cls := "MountTable$Layer", name := "valueAt", desc := "(I)I" } : MethodName)) ∈ mt_T := mt_m3 45 rfl rfl
theorem mw_ml_X3_290 : (Cond.methodLink "MountTable" (290 : Nat) ({ cls := "MountTable", name := "mayLead", desc := "(II)Z" } : MethodName)) ∈ mt_T := mt_m3 46 rfl rfl
theorem mw_im_X3_mayLead : (Cond.instanceMethod ({ cls := "MountTable", name := "mayLead", desc := "(II)Z" } : MethodName)) ∈ mt_T := mt_m3 48 rfl rfl
theorem mw_co_X3_mayLead : (Cond.code ({ cls := "MountTable", name := "mayLead", desc := "(II)Z" } : MethodName) prog_1_method_60_code (4 : Nat) (Option.some ClassFile.FieldType.boolean)) ∈ mt_T := mt_m3 49 rfl rfl
theorem mw_ml_L_153 : (Cond.methodLink "MountTableLaw" (153 : Nat) ({ cls := "MountTableLaw", name := "size", desc := "(LMountTable;I[J)I" } : MethodName)) ∈ mt_T := mt_m3 52 rfl rfl
theorem mw_st_L_size : (Cond.static ({ cls := "MountTableLaw", name := "size", desc := "(LMountTable;I[J)I" } : MethodName)) ∈ mt_T := mt_m3 53 rfl rfl
theorem mw_cw_L_size : (Cond.codeWith ({ cls := "MountTableLaw", name := "size", desc := "(LMountTable;I[J)I" } : MethodName) method_15_code (4 : Nat) (Option.some ClassFile.FieldType.int) [((0 : Nat), (9 : Nat), (12 : Nat), (19 : Nat)), ((0 : Nat), (9 : Nat), (15 : Nat), (23 : Nat)), ((0 : Nat), (9 : Nat), (18 : Nat), (13 : Nat)), ((0 : Nat), (9 : Nat), (21 : Nat), (40 : Nat))]) ∈ mt_T := mt_m3 54 rfl rfl
theorem mw_ml_L_61 : (Cond.methodLink "MountTableLaw" (61 : Nat) ({ cls := "MountTable", name := "size", desc := "(I)I" } : MethodName)) ∈ mt_T := mt_m3 55 rfl rfl
theorem mw_im_X3_size : (Cond.instanceMethod ({ cls := "MountTable", name := "size", desc := "(I)I" } : MethodName)) ∈ mt_T := mt_m3 56 rfl rfl
theorem mw_se_X3_X3_size : (Cond.selects "MountTable" ({ cls := "MountTable", name := "size", desc := "(I)I" } : MethodName) ({ cls := "MountTable", name := "size", desc := "(I)I" } : MethodName)) ∈ mt_T := mt_m3 57 rfl rfl
theorem mw_co_X3_size : (Cond.code ({ cls := "MountTable", name := "size", desc := "(I)I" } : MethodName) prog_1_method_15_code (3 : Nat) (Option.some ClassFile.FieldType.int)) ∈ mt_T := mt_m3 58 rfl rfl
theorem mw_ml_X3_186 : (Cond.methodLink "MountTable" (186 : Nat) ({ cls := "MountTable", name := "shownFileSize", desc := "(I)I" } : MethodName)) ∈ mt_T := mt_m3 59 rfl rfl
theorem mw_im_X3_shownFileSize : (Cond.instanceMethod ({ cls := "MountTable", name := "shownFileSize", desc := "(I)I" } : MethodName)) ∈ mt_T := mt_m3 61 rfl rfl
theorem mw_co_X3_shownFileSize : (Cond.code ({ cls := "MountTable", name := "shownFileSize", desc := "(I)I" } : MethodName) prog_1_method_56_code (2 : Nat) (Option.some ClassFile.FieldType.int)) ∈ mt_T := mt_m3 62 rfl rfl
theorem mw_ml_X3_198 : (Cond.methodLink "MountTable" (198 : Nat) ({ cls := "MountTable", name := "fileSizeIn", desc := "(II)I" } : MethodName)) ∈ mt_T := mt_m3 63 rfl rfl
theorem mw_im_X3_fileSizeIn : (Cond.instanceMethod ({ cls := "MountTable", name := "fileSizeIn", desc := "(II)I" } : MethodName)) ∈ mt_T := mt_m3 65 rfl rfl
theorem mw_co_X3_fileSizeIn : (Cond.code ({ cls := "MountTable", name := "fileSizeIn", desc := "(II)I" } : MethodName) prog_1_method_52_code (4 : Nat) (Option.some ClassFile.FieldType.int)) ∈ mt_T := mt_m3 66 rfl rfl
theorem mw_ml_X3_278 : (Cond.methodLink "MountTable" (278 : Nat) ({ cls := "MountTable$Layer", name := "fileSizeAt", desc := "(I)I" } : MethodName)) ∈ mt_T := mt_m3 67 rfl rfl
theorem mw_im_X1_fileSizeAt : (Cond.instanceMethod ({ cls := "MountTable$Layer", name := "fileSizeAt", desc := "(I)I" } : MethodName)) ∈ mt_T := mt_m3 68 rfl rfl
theorem mw_se_X1_X1_fileSizeAt : (Cond.selects "MountTable$Layer" ({ cls := "MountTable$Layer", name := "fileSizeAt", desc := "(I)I" } : MethodName) ({ cls := "MountTable$Layer", name := "fileSizeAt", desc := "(I)I" } : MethodName)) ∈ mt_T := mt_m3 69 rfl rfl
theorem mw_co_X1_fileSizeAt : (Cond.code ({ cls := "MountTable$Layer", name := "fileSizeAt", desc := "(I)I" } : MethodName) prog_3_method_5_code (2 : Nat) (Option.some ClassFile.FieldType.int)) ∈ mt_T := mt_m3 70 rfl rfl
theorem mw_ml_L_156 : (Cond.methodLink "MountTableLaw" (156 : Nat) ({ cls := "MountTableLaw", name := "sizeByWalking", desc := "(LMountTable;I[J)I" } : MethodName)) ∈ mt_T := mt_m3 72 rfl rfl
theorem mw_st_L_sizeByWalking : (Cond.static ({ cls := "MountTableLaw", name := "sizeByWalking", desc := "(LMountTable;I[J)I" } : MethodName)) ∈ mt_T := mt_m3 73 rfl rfl
theorem mw_cw_L_sizeByWalking : (Cond.codeWith ({ cls := "MountTableLaw", name := "sizeByWalking", desc := "(LMountTable;I[J)I" } : MethodName) method_16_code (4 : Nat) (Option.some ClassFile.FieldType.int) [((0 : Nat), (9 : Nat), (12 : Nat), (19 : Nat))]) ∈ mt_T := mt_m3 74 rfl rfl
theorem mw_ml_L_64 : (Cond.methodLink "MountTableLaw" (64 : Nat) ({ cls := "MountTable", name := "sizeByWalking", desc := "(I)I" } : MethodName)) ∈ mt_T := mt_m3 75 rfl rfl
theorem mw_im_X3_sizeByWalking : (Cond.instanceMethod ({ cls := "MountTable", name := "sizeByWalking", desc := "(I)I" } : MethodName)) ∈ mt_T := mt_m3 76 rfl rfl
theorem mw_se_X3_X3_sizeByWalking : (Cond.selects "MountTable" ({ cls := "MountTable", name := "sizeByWalking", desc := "(I)I" } : MethodName) ({ cls := "MountTable", name := "sizeByWalking", desc := "(I)I" } : MethodName)) ∈ mt_T := mt_m3 77 rfl rfl
theorem mw_co_X3_sizeByWalking : (Cond.code ({ cls := "MountTable", name := "sizeByWalking", desc := "(I)I" } : MethodName) prog_1_method_16_code (6 : Nat) (Option.some ClassFile.FieldType.int)) ∈ mt_T := mt_m3 78 rfl rfl
theorem mw_ml_X3_191 : (Cond.methodLink "MountTable" (191 : Nat) ({ cls := "MountTable", name := "restBehind", desc := "(II)I" } : MethodName)) ∈ mt_T := mt_m3 79 rfl rfl
theorem mw_st_X3_restBehind : (Cond.static ({ cls := "MountTable", name := "restBehind", desc := "(II)I" } : MethodName)) ∈ mt_T := mt_m3 80 rfl rfl
theorem mw_co_X3_restBehind : (Cond.code ({ cls := "MountTable", name := "restBehind", desc := "(II)I" } : MethodName) prog_1_method_32_code (4 : Nat) (Option.some ClassFile.FieldType.int)) ∈ mt_T := mt_m3 81 rfl rfl
theorem mw_ml_L_159 : (Cond.methodLink "MountTableLaw" (159 : Nat) ({ cls := "MountTableLaw", name := "ownerOf", desc := "(LMountTable;I[J)I" } : MethodName)) ∈ mt_T := mt_m3 82 rfl rfl
theorem mw_st_L_ownerOf : (Cond.static ({ cls := "MountTableLaw", name := "ownerOf", desc := "(LMountTable;I[J)I" } : MethodName)) ∈ mt_T := mt_m3 83 rfl rfl
theorem mw_cw_L_ownerOf : (Cond.codeWith ({ cls := "MountTableLaw", name := "ownerOf", desc := "(LMountTable;I[J)I" } : MethodName) method_17_code (4 : Nat) (Option.some ClassFile.FieldType.int) [((0 : Nat), (9 : Nat), (12 : Nat), (19 : Nat)), ((0 : Nat), (9 : Nat), (15 : Nat), (40 : Nat))]) ∈ mt_T := mt_m3 84 rfl rfl
theorem mw_ml_L_67 : (Cond.methodLink "MountTableLaw" (67 : Nat) ({ cls := "MountTable", name := "ownerOf", desc := "(I)I" } : MethodName)) ∈ mt_T := mt_m3 85 rfl rfl
theorem mw_im_X3_ownerOf : (Cond.instanceMethod ({ cls := "MountTable", name := "ownerOf", desc := "(I)I" } : MethodName)) ∈ mt_T := mt_m3 86 rfl rfl
theorem mw_se_X3_X3_ownerOf : (Cond.selects "MountTable" ({ cls := "MountTable", name := "ownerOf", desc := "(I)I" } : MethodName) ({ cls := "MountTable", name := "ownerOf", desc := "(I)I" } : MethodName)) ∈ mt_T := mt_m3 87 rfl rfl
theorem mw_co_X3_ownerOf : (Cond.code ({ cls := "MountTable", name := "ownerOf", desc := "(I)I" } : MethodName) prog_1_method_17_code (3 : Nat) (Option.some ClassFile.FieldType.int)) ∈ mt_T := mt_m3 88 rfl rfl
theorem mw_ml_L_162 : (Cond.methodLink "MountTableLaw" (162 : Nat) ({ cls := "MountTableLaw", name := "setQuota", desc := "(LMountTable;II[J)I" } : MethodName)) ∈ mt_T := mt_m3 89 rfl rfl
theorem mw_st_L_setQuota : (Cond.static ({ cls := "MountTableLaw", name := "setQuota", desc := "(LMountTable;II[J)I" } : MethodName)) ∈ mt_T := mt_m3 90 rfl rfl
theorem mw_cw_L_setQuota : (Cond.codeWith ({ cls := "MountTableLaw", name := "setQuota", desc := "(LMountTable;II[J)I" } : MethodName) method_18_code (5 : Nat) (Option.some ClassFile.FieldType.int) [((0 : Nat), (10 : Nat), (13 : Nat), (19 : Nat))]) ∈ mt_T := mt_m3 91 rfl rfl
theorem mw_ml_L_70 : (Cond.methodLink "MountTableLaw" (70 : Nat) ({ cls := "MountTable", name := "setQuota", desc := "(II)I" } : MethodName)) ∈ mt_T := mt_m3 92 rfl rfl
theorem mw_im_X3_setQuota : (Cond.instanceMethod ({ cls := "MountTable", name := "setQuota", desc := "(II)I" } : MethodName)) ∈ mt_T := mt_m3 93 rfl rfl
theorem mw_se_X3_X3_setQuota : (Cond.selects "MountTable" ({ cls := "MountTable", name := "setQuota", desc := "(II)I" } : MethodName) ({ cls := "MountTable", name := "setQuota", desc := "(II)I" } : MethodName)) ∈ mt_T := mt_m3 94 rfl rfl
theorem mw_co_X3_setQuota : (Cond.code ({ cls := "MountTable", name := "setQuota", desc := "(II)I" } : MethodName) prog_1_method_18_code (4 : Nat) (Option.some ClassFile.FieldType.int)) ∈ mt_T := mt_m3 95 rfl rfl
theorem mw_cn_X3_204 : (Cond.constant "MountTable" (204 : Nat) (99999 : Int32)) ∈ mt_T := mt_m3 96 rfl rfl
theorem mw_ml_L_165 : (Cond.methodLink "MountTableLaw" (165 : Nat) ({ cls := "MountTableLaw", name := "used", desc := "(LMountTable;I[J)I" } : MethodName)) ∈ mt_T := mt_m3 98 rfl rfl
theorem mw_st_L_used : (Cond.static ({ cls := "MountTableLaw", name := "used", desc := "(LMountTable;I[J)I" } : MethodName)) ∈ mt_T := mt_m3 99 rfl rfl
theorem mw_cw_L_used : (Cond.codeWith ({ cls := "MountTableLaw", name := "used", desc := "(LMountTable;I[J)I" } : MethodName) method_19_code (4 : Nat) (Option.some ClassFile.FieldType.int) [((0 : Nat), (9 : Nat), (12 : Nat), (19 : Nat))]) ∈ mt_T := mt_m3 100 rfl rfl
theorem mw_ml_L_73 : (Cond.methodLink "MountTableLaw" (73 : Nat) ({ cls := "MountTable", name := "used", desc := "(I)I" } : MethodName)) ∈ mt_T := mt_m3 101 rfl rfl
theorem mw_im_X3_used : (Cond.instanceMethod ({ cls := "MountTable", name := "used", desc := "(I)I" } : MethodName)) ∈ mt_T := mt_m3 102 rfl rfl
theorem mw_se_X3_X3_used : (Cond.selects "MountTable" ({ cls := "MountTable", name := "used", desc := "(I)I" } : MethodName) ({ cls := "MountTable", name := "used", desc := "(I)I" } : MethodName)) ∈ mt_T := mt_m3 103 rfl rfl
theorem mw_co_X3_used : (Cond.code ({ cls := "MountTable", name := "used", desc := "(I)I" } : MethodName) prog_1_method_19_code (2 : Nat) (Option.some ClassFile.FieldType.int)) ∈ mt_T := mt_m3 104 rfl rfl
theorem mw_ml_L_168 : (Cond.methodLink "MountTableLaw" (168 : Nat) ({ cls := "MountTableLaw", name := "usedByLayers", desc := "(LMountTable;I[J)I" } : MethodName)) ∈ mt_T := mt_m3 105 rfl rfl
theorem mw_st_L_usedByLayers : (Cond.static ({ cls := "MountTableLaw", name := "usedByLayers", desc := "(LMountTable;I[J)I" } : MethodName)) ∈ mt_T := mt_m3 106 rfl rfl
theorem mw_cw_L_usedByLayers : (Cond.codeWith ({ cls := "MountTableLaw", name := "usedByLayers", desc := "(LMountTable;I[J)I" } : MethodName) method_20_code (4 : Nat) (Option.some ClassFile.FieldType.int) [((0 : Nat), (9 : Nat), (12 : Nat), (19 : Nat))]) ∈ mt_T := mt_m3 107 rfl rfl
theorem mw_ml_L_76 : (Cond.methodLink "MountTableLaw" (76 : Nat) ({ cls := "MountTable", name := "usedByLayers", desc := "(I)I" } : MethodName)) ∈ mt_T := mt_m3 108 rfl rfl
theorem mw_im_X3_usedByLayers : (Cond.instanceMethod ({ cls := "MountTable", name := "usedByLayers", desc := "(I)I" } : MethodName)) ∈ mt_T := mt_m3 109 rfl rfl
theorem mw_se_X3_X3_usedByLayers : (Cond.selects "MountTable" ({ cls := "MountTable", name := "usedByLayers", desc := "(I)I" } : MethodName) ({ cls := "MountTable", name := "usedByLayers", desc := "(I)I" } : MethodName)) ∈ mt_T := mt_m3 110 rfl rfl
theorem mw_co_X3_usedByLayers : (Cond.code ({ cls := "MountTable", name := "usedByLayers", desc := "(I)I" } : MethodName) prog_1_method_20_code (5 : Nat) (Option.some ClassFile.FieldType.int)) ∈ mt_T := mt_m3 111 rfl rfl
theorem mw_ml_X3_210 : (Cond.methodLink "MountTable" (210 : Nat) ({ cls := "MountTable$Layer", name := "bytesOfOwner", desc := "(I)I" } : MethodName)) ∈ mt_T := mt_m3 112 rfl rfl
theorem mw_im_X1_bytesOfOwner : (Cond.instanceMethod ({ cls := "MountTable$Layer", name := "bytesOfOwner", desc := "(I)I" } : MethodName)) ∈ mt_T := mt_m3 113 rfl rfl
theorem mw_se_X1_X1_bytesOfOwner : (Cond.selects "MountTable$Layer" ({ cls := "MountTable$Layer", name := "bytesOfOwner", desc := "(I)I" } : MethodName) ({ cls := "MountTable$Layer", name := "bytesOfOwner", desc := "(I)I" } : MethodName)) ∈ mt_T := mt_m3 114 rfl rfl
theorem mw_co_X1_bytesOfOwner : (Cond.code ({ cls := "MountTable$Layer", name := "bytesOfOwner", desc := "(I)I" } : MethodName) prog_3_method_10_code (4 : Nat) (Option.some ClassFile.FieldType.int)) ∈ mt_T := mt_m3 115 rfl rfl
theorem mw_ml_X1_42 : (Cond.methodLink "MountTable$Layer" (42 : Nat) ({ cls := "MountTable$Layer", name := "bytesOfOwnerAt", desc := "(II)I" } : MethodName)) ∈ mt_T := mt_m3 116 rfl rfl
theorem mw_ml_L_179 : (Cond.methodLink "MountTableLaw" (179 : Nat) ({ cls := "MountTableLaw", name := "whiteouts", desc := "(LMountTable;I[J)I" } : MethodName)) ∈ mt_T := mt_m3 117 rfl rfl
theorem mw_st_L_whiteouts : (Cond.static ({ cls := "MountTableLaw", name := "whiteouts", desc := "(LMountTable;I[J)I" } : MethodName)) ∈ mt_T := mt_m3 118 rfl rfl
theorem mw_cw_L_whiteouts : (Cond.codeWith ({ cls := "MountTableLaw", name := "whiteouts", desc := "(LMountTable;I[J)I" } : MethodName) method_21_code (4 : Nat) (Option.some ClassFile.FieldType.int) [((0 : Nat), (9 : Nat), (12 : Nat), (21 : Nat))]) ∈ mt_T := mt_m3 119 rfl rfl
theorem mw_ml_L_79 : (Cond.methodLink "MountTableLaw" (79 : Nat) ({ cls := "MountTable", name := "whiteouts", desc := "(I)I" } : MethodName)) ∈ mt_T := mt_m3 120 rfl rfl
theorem mw_im_X3_whiteouts : (Cond.instanceMethod ({ cls := "MountTable", name := "whiteouts", desc := "(I)I" } : MethodName)) ∈ mt_T := mt_m3 121 rfl rfl
theorem mw_se_X3_X3_whiteouts : (Cond.selects "MountTable" ({ cls := "MountTable", name := "whiteouts", desc := "(I)I" } : MethodName) ({ cls := "MountTable", name := "whiteouts", desc := "(I)I" } : MethodName)) ∈ mt_T := mt_m3 122 rfl rfl
theorem mw_co_X3_whiteouts : (Cond.code ({ cls := "MountTable", name := "whiteouts", desc := "(I)I" } : MethodName) prog_1_method_23_code (2 : Nat) (Option.some ClassFile.FieldType.int)) ∈ mt_T := mt_m3 123 rfl rfl
theorem mw_ml_X3_222 : (Cond.methodLink "MountTable" (222 : Nat) ({ cls := "MountTable", name := "checkedLayer", desc := "(I)LMountTable$Layer;" } : MethodName)) ∈ mt_T := mt_m3 124 rfl rfl
theorem mw_im_X3_checkedLayer : (Cond.instanceMethod ({ cls := "MountTable", name := "checkedLayer", desc := "(I)LMountTable$Layer;" } : MethodName)) ∈ mt_T := mt_m3 126 rfl rfl
theorem mw_co_X3_checkedLayer : (Cond.code ({ cls := "MountTable", name := "checkedLayer", desc := "(I)LMountTable$Layer;" } : MethodName) prog_1_method_40_code (3 : Nat) (Option.some (ClassFile.FieldType.object "MountTable$Layer"))) ∈ mt_T := mt_m3 127 rfl rfl
theorem mw_ml_L_182 : (Cond.methodLink "MountTableLaw" (182 : Nat) ({ cls := "MountTableLaw", name := "backUp", desc := "(LMountTable;Z[J)I" } : MethodName)) ∈ mt_T := mt_m3 128 rfl rfl
theorem mw_st_L_backUp : (Cond.static ({ cls := "MountTableLaw", name := "backUp", desc := "(LMountTable;Z[J)I" } : MethodName)) ∈ mt_T := mt_m3 129 rfl rfl
theorem mw_cw_L_backUp : (Cond.codeWith ({ cls := "MountTableLaw", name := "backUp", desc := "(LMountTable;Z[J)I" } : MethodName) method_22_code (4 : Nat) (Option.some ClassFile.FieldType.int) [((0 : Nat), (9 : Nat), (12 : Nat), (13 : Nat))]) ∈ mt_T := mt_m3 130 rfl rfl
theorem mw_ml_L_82 : (Cond.methodLink "MountTableLaw" (82 : Nat) ({ cls := "MountTable", name := "backUp", desc := "(Z)I" } : MethodName)) ∈ mt_T := mt_m3 131 rfl rfl
theorem mw_im_X3_backUp : (Cond.instanceMethod ({ cls := "MountTable", name := "backUp", desc := "(Z)I" } : MethodName)) ∈ mt_T := mt_m3 132 rfl rfl
theorem mw_se_X3_X3_backUp : (Cond.selects "MountTable" ({ cls := "MountTable", name := "backUp", desc := "(Z)I" } : MethodName) ({ cls := "MountTable", name := "backUp", desc := "(Z)I" } : MethodName)) ∈ mt_T := mt_m3 133 rfl rfl
theorem mw_co_X3_backUp : (Cond.code ({ cls := "MountTable", name := "backUp", desc := "(Z)I" } : MethodName) prog_1_method_24_code (4 : Nat) (Option.some ClassFile.FieldType.int)) ∈ mt_T := mt_m3 134 rfl rfl
theorem mw_ii_X0 : (Cond.instantiable "MountTable$Backup" (2 : Nat)) ∈ mt_T := mt_m3 136 rfl rfl
theorem mw_ml_X3_230 : (Cond.methodLink "MountTable" (230 : Nat) ({ cls := "MountTable$Backup", name := "<init>", desc := "(Z)V" } : MethodName)) ∈ mt_T := mt_m3 137 rfl rfl
theorem mw_im_X0_init : (Cond.instanceMethod ({ cls := "MountTable$Backup", name := "<init>", desc := "(Z)V" } : MethodName)) ∈ mt_T := mt_m3 138 rfl rfl
theorem mw_co_X0_init : (Cond.code ({ cls := "MountTable$Backup", name := "<init>", desc := "(Z)V" } : MethodName) prog_2_method_1_code (2 : Nat) (Option.none : Option ClassFile.FieldType)) ∈ mt_T := mt_m3 139 rfl rfl
theorem mw_ml_X0_3 : (Cond.methodLink "MountTable$Backup" (3 : Nat) ({ cls := "java/lang/Object", name := "<init>", desc := "()V" } : MethodName)) ∈ mt_T := mt_m3 140 rfl rfl
theorem mw_fl_X0_9 : (Cond.fieldLink "MountTable$Backup" (9 : Nat) "MountTable$Backup" "isOfSeen" "Z") ∈ mt_T := mt_m3 141 rfl rfl
theorem mw_fn_X3_247 : (Cond.fieldLinkNest "MountTable" (247 : Nat) "MountTable$Backup" "isOfSeen" "Z" "MountTable") ∈ mt_bw := mt_b3 142 rfl rfl
theorem mw_fl_X0_15 : (Cond.fieldLink "MountTable$Backup" (15 : Nat) "MountTable$Backup" "sizes" "[I") ∈ mt_T := mt_m3 143 rfl rfl
theorem mw_fn_X3_233 : (Cond.fieldLinkNest "MountTable" (233 : Nat) "MountTable$Backup" "sizes" "[I" "MountTable") ∈ mt_bw := mt_b3 144 rfl rfl
theorem mw_la_X0_X0_isOfSeen : (Cond.laysFinal "MountTable$Backup" "MountTable$Backup" "isOfSeen" "Z") ∈ mt_T := mt_m3 145 rfl rfl
theorem mw_la_X0_X0_sizes : (Cond.laysFinal "MountTable$Backup" "MountTable$Backup" "sizes" "[I") ∈ mt_T := mt_m3 147 rfl rfl
theorem mw_ml_X3_236 : (Cond.methodLink "MountTable" (236 : Nat) ({ cls := "MountTable", name := "sizeNow", desc := "(ZI)I" } : MethodName)) ∈ mt_T := mt_m3 150 rfl rfl
theorem mw_im_X3_sizeNow : (Cond.instanceMethod ({ cls := "MountTable", name := "sizeNow", desc := "(ZI)I" } : MethodName)) ∈ mt_T := mt_m3 152 rfl rfl
theorem mw_co_X3_sizeNow : (Cond.code ({ cls := "MountTable", name := "sizeNow", desc := "(ZI)I" } : MethodName) prog_1_method_58_code (3 : Nat) (Option.some ClassFile.FieldType.int)) ∈ mt_T := mt_m3 153 rfl rfl
theorem mw_ml_L_186 : (Cond.methodLink "MountTableLaw" (186 : Nat) ({ cls := "MountTableLaw", name := "bytes", desc := "(LMountTable;I[J)I" } : MethodName)) ∈ mt_T := mt_m3 154 rfl rfl
theorem mw_st_L_bytes : (Cond.static ({ cls := "MountTableLaw", name := "bytes", desc := "(LMountTable;I[J)I" } : MethodName)) ∈ mt_T := mt_m3 155 rfl rfl
theorem mw_cw_L_bytes : (Cond.codeWith ({ cls := "MountTableLaw", name := "bytes", desc := "(LMountTable;I[J)I" } : MethodName) method_23_code (4 : Nat) (Option.some ClassFile.FieldType.int) [((0 : Nat), (9 : Nat), (12 : Nat), (21 : Nat))]) ∈ mt_T := mt_m3 156 rfl rfl
theorem mw_ml_L_86 : (Cond.methodLink "MountTableLaw" (86 : Nat) ({ cls := "MountTable", name := "bytes", desc := "(I)I" } : MethodName)) ∈ mt_T := mt_m3 157 rfl rfl
theorem mw_im_X3_bytes : (Cond.instanceMethod ({ cls := "MountTable", name := "bytes", desc := "(I)I" } : MethodName)) ∈ mt_T := mt_m3 158 rfl rfl
theorem mw_se_X3_X3_bytes : (Cond.selects "MountTable" ({ cls := "MountTable", name := "bytes", desc := "(I)I" } : MethodName) ({ cls := "MountTable", name := "bytes", desc := "(I)I" } : MethodName)) ∈ mt_T := mt_m3 159 rfl rfl
theorem mw_co_X3_bytes : (Cond.code ({ cls := "MountTable", name := "bytes", desc := "(I)I" } : MethodName) prog_1_method_25_code (2 : Nat) (Option.some ClassFile.FieldType.int)) ∈ mt_T := mt_m3 160 rfl rfl
theorem mw_ml_X3_240 : (Cond.methodLink "MountTable" (240 : Nat) ({ cls := "MountTable", name := "checkedBackup", desc := "(I)LMountTable$Backup;" } : MethodName)) ∈ mt_T := mt_m3 161 rfl rfl
theorem mw_im_X3_checkedBackup : (Cond.instanceMethod ({ cls := "MountTable", name := "checkedBackup", desc := "(I)LMountTable$Backup;" } : MethodName)) ∈ mt_T := mt_m3 163 rfl rfl
theorem mw_co_X3_checkedBackup : (Cond.code ({ cls := "MountTable", name := "checkedBackup", desc := "(I)LMountTable$Backup;" } : MethodName) prog_1_method_43_code (3 : Nat) (Option.some (ClassFile.FieldType.object "MountTable$Backup"))) ∈ mt_T := mt_m3 164 rfl rfl
theorem mw_ml_X3_244 : (Cond.methodLink "MountTable" (244 : Nat) ({ cls := "MountTable$Backup", name := "sum", desc := "()I" } : MethodName)) ∈ mt_T := mt_m3 166 rfl rfl
theorem mw_im_X0_sum : (Cond.instanceMethod ({ cls := "MountTable$Backup", name := "sum", desc := "()I" } : MethodName)) ∈ mt_T := mt_m3 167 rfl rfl
theorem mw_se_X0_X0_sum : (Cond.selects "MountTable$Backup" ({ cls := "MountTable$Backup", name := "sum", desc := "()I" } : MethodName) ({ cls := "MountTable$Backup", name := "sum", desc := "()I" } : MethodName)) ∈ mt_T := mt_m3 168 rfl rfl
theorem mw_co_X0_sum : (Cond.code ({ cls := "MountTable$Backup", name := "sum", desc := "()I" } : MethodName) prog_2_method_2_code (3 : Nat) (Option.some ClassFile.FieldType.int)) ∈ mt_T := mt_m3 169 rfl rfl
theorem mw_ml_L_189 : (Cond.methodLink "MountTableLaw" (189 : Nat) ({ cls := "MountTableLaw", name := "differences", desc := "(LMountTable;I[J)I" } : MethodName)) ∈ mt_T := mt_m3 170 rfl rfl
theorem mw_st_L_differences : (Cond.static ({ cls := "MountTableLaw", name := "differences", desc := "(LMountTable;I[J)I" } : MethodName)) ∈ mt_T := mt_m3 171 rfl rfl
theorem mw_cw_L_differences : (Cond.codeWith ({ cls := "MountTableLaw", name := "differences", desc := "(LMountTable;I[J)I" } : MethodName) method_24_code (4 : Nat) (Option.some ClassFile.FieldType.int) [((0 : Nat), (9 : Nat), (12 : Nat), (21 : Nat))]) ∈ mt_T := mt_m3 172 rfl rfl
theorem mw_ml_L_89 : (Cond.methodLink "MountTableLaw" (89 : Nat) ({ cls := "MountTable", name := "differences", desc := "(I)I" } : MethodName)) ∈ mt_T := mt_m3 173 rfl rfl
theorem mw_im_X3_differences : (Cond.instanceMethod ({ cls := "MountTable", name := "differences", desc := "(I)I" } : MethodName)) ∈ mt_T := mt_m3 174 rfl rfl
theorem mw_se_X3_X3_differences : (Cond.selects "MountTable" ({ cls := "MountTable", name := "differences", desc := "(I)I" } : MethodName) ({ cls := "MountTable", name := "differences", desc := "(I)I" } : MethodName)) ∈ mt_T := mt_m3 175 rfl rfl
theorem mw_co_X3_differences : (Cond.code ({ cls := "MountTable", name := "differences", desc := "(I)I" } : MethodName) prog_1_method_26_code (5 : Nat) (Option.some ClassFile.FieldType.int)) ∈ mt_T := mt_m3 176 rfl rfl
theorem mw_ml_L_192 : (Cond.methodLink "MountTableLaw" (192 : Nat) ({ cls := "MountTableLaw", name := "shownShare", desc := "(LMountTable;[D)I" } : MethodName)) ∈ mt_T := mt_m3 177 rfl rfl
theorem mw_st_L_shownShare : (Cond.static ({ cls := "MountTableLaw", name := "shownShare", desc := "(LMountTable;[D)I" } : MethodName)) ∈ mt_T := mt_m3 178 rfl rfl
theorem mw_cw_L_shownShare : (Cond.codeWith ({ cls := "MountTableLaw", name := "shownShare", desc := "(LMountTable;[D)I" } : MethodName) method_25_code (3 : Nat) (Option.some ClassFile.FieldType.int) [((0 : Nat), (8 : Nat), (11 : Nat), (96 : Nat))]) ∈ mt_T := mt_m3 179 rfl rfl
theorem mw_cl_L_96 : (Cond.classLink "MountTableLaw" (96 : Nat) "java/lang/ArithmeticException") ∈ mt_T := mt_m3 180 rfl rfl
theorem mw_ii_java_lang_ArithmeticException : (Cond.instantiable "java/lang/ArithmeticException" (6 : Nat)) ∈ mt_T := mt_m3 181 rfl rfl
theorem mw_im_java_lang_ArithmeticException__init__Ljava_lang_String__V : (Cond.instanceMethod ({ cls := "java/lang/ArithmeticException", name := "<init>", desc := "(Ljava/lang/String;)V" } : MethodName)) ∈ mt_T := mt_m3 182 rfl rfl
theorem mw_co_java_lang_ArithmeticException__init__Ljava_lang_String__V : (Cond.code ({ cls := "java/lang/ArithmeticException", name := "<init>", desc := "(Ljava/lang/String;)V" } : MethodName) prog_7_method_2_code (2 : Nat) (Option.none : Option ClassFile.FieldType)) ∈ mt_T := mt_m3 183 rfl rfl
theorem mw_ml_java_lang_ArithmeticException_7 : (Cond.methodLink "java/lang/ArithmeticException" (7 : Nat) ({ cls := "java/lang/RuntimeException", name := "<init>", desc := "(Ljava/lang/String;)V" } : MethodName)) ∈ mt_T := mt_m3 184 rfl rfl
theorem mw_la_java_lang_ArithmeticException_java_lang_Throwable_backtrace : (Cond.lays "java/lang/ArithmeticException" "java/lang/Throwable" "backtrace" "Ljava/lang/Object;") ∈ mt_T := mt_m3 185 rfl rfl
theorem mw_la_java_lang_ArithmeticException_java_lang_Throwable_detailMessage : (Cond.lays "java/lang/ArithmeticException" "java/lang/Throwable" "detailMessage" "Ljava/lang/String;") ∈ mt_T := mt_m3 186 rfl rfl
theorem mw_la_java_lang_ArithmeticException_java_lang_Throwable_cause : (Cond.lays "java/lang/ArithmeticException" "java/lang/Throwable" "cause" "Ljava/lang/Throwable;") ∈ mt_T := mt_m3 187 rfl rfl
theorem mw_la_java_lang_ArithmeticException_java_lang_Throwable_stackTrace : (Cond.lays "java/lang/ArithmeticException" "java/lang/Throwable" "stackTrace" "[Ljava/lang/StackTraceElement;") ∈ mt_T := mt_m3 188 rfl rfl
theorem mw_la_java_lang_ArithmeticException_java_lang_Throwable_depth : (Cond.lays "java/lang/ArithmeticException" "java/lang/Throwable" "depth" "I") ∈ mt_T := mt_m3 189 rfl rfl
theorem mw_la_java_lang_ArithmeticException_java_lang_Throwable_suppressedExceptions : (Cond.lays "java/lang/ArithmeticException" "java/lang/Throwable" "suppressedExceptions" "Ljava/util/List;") ∈ mt_T := mt_m3 190 rfl rfl
theorem mw_ca_java_lang_ArithmeticException_java_lang_ArithmeticException : (Cond.castable "java/lang/ArithmeticException" "java/lang/ArithmeticException") ∈ mt_bw := mt_b3 192 rfl rfl
theorem mw_se_java_lang_ArithmeticException_java_lang_Throwable_fillInStackTrace_I_Ljava_lang_Throwable_ : (Cond.selects "java/lang/ArithmeticException" ({ cls := "java/lang/Throwable", name := "fillInStackTrace", desc := "(I)Ljava/lang/Throwable;" } : MethodName) ({ cls := "java/lang/Throwable", name := "fillInStackTrace", desc := "(I)Ljava/lang/Throwable;" } : MethodName)) ∈ mt_T := mt_m3 193 rfl rfl
theorem mw_ml_L_92 : (Cond.methodLink "MountTableLaw" (92 : Nat) ({ cls := "MountTable", name := "shownShare", desc := "()F" } : MethodName)) ∈ mt_T := mt_m3 194 rfl rfl
theorem mw_im_X3_shownShare : (Cond.instanceMethod ({ cls := "MountTable", name := "shownShare", desc := "()F" } : MethodName)) ∈ mt_T := mt_m3 195 rfl rfl
theorem mw_se_X3_X3_shownShare : (Cond.selects "MountTable" ({ cls := "MountTable", name := "shownShare", desc := "()F" } : MethodName) ({ cls := "MountTable", name := "shownShare", desc := "()F" } : MethodName)) ∈ mt_T := mt_m3 196 rfl rfl
theorem mw_co_X3_shownShare : (Cond.code ({ cls := "MountTable", name := "shownShare", desc := "()F" } : MethodName) prog_1_method_27_code (2 : Nat) (Option.some ClassFile.FieldType.float)) ∈ mt_T := mt_m3 197 rfl rfl
theorem mw_cl_X3_250 : (Cond.classLink "MountTable" (250 : Nat) "java/lang/ArithmeticException") ∈ mt_T := mt_m3 198 rfl rfl
theorem mw_ml_X3_254 : (Cond.methodLink "MountTable" (254 : Nat) ({ cls := "java/lang/ArithmeticException", name := "<init>", desc := "(Ljava/lang/String;)V" } : MethodName)) ∈ mt_T := mt_m3 200 rfl rfl
theorem mw_ml_L_196 : (Cond.methodLink "MountTableLaw" (196 : Nat) ({ cls := "MountTableLaw", name := "meanSize", desc := "(LMountTable;I[D)I" } : MethodName)) ∈ mt_T := mt_m3 201 rfl rfl
theorem mw_st_L_meanSize : (Cond.static ({ cls := "MountTableLaw", name := "meanSize", desc := "(LMountTable;I[D)I" } : MethodName)) ∈ mt_T := mt_m3 202 rfl rfl
theorem mw_cw_L_meanSize : (Cond.codeWith ({ cls := "MountTableLaw", name := "meanSize", desc := "(LMountTable;I[D)I" } : MethodName) method_26_code (4 : Nat) (Option.some ClassFile.FieldType.int) [((0 : Nat), (8 : Nat), (11 : Nat), (21 : Nat)), ((0 : Nat), (8 : Nat), (14 : Nat), (96 : Nat))]) ∈ mt_T := mt_m3 203 rfl rfl
theorem mw_ml_L_98 : (Cond.methodLink "MountTableLaw" (98 : Nat) ({ cls := "MountTable", name := "meanSize", desc := "(I)D" } : MethodName)) ∈ mt_T := mt_m3 204 rfl rfl
theorem mw_im_X3_meanSize : (Cond.instanceMethod ({ cls := "MountTable", name := "meanSize", desc := "(I)D" } : MethodName)) ∈ mt_T := mt_m3 205 rfl rfl
theorem mw_se_X3_X3_meanSize : (Cond.selects "MountTable" ({ cls := "MountTable", name := "meanSize", desc := "(I)D" } : MethodName) ({ cls := "MountTable", name := "meanSize", desc := "(I)D" } : MethodName)) ∈ mt_T := mt_m3 206 rfl rfl
theorem mw_co_X3_meanSize : (Cond.code ({ cls := "MountTable", name := "meanSize", desc := "(I)D" } : MethodName) prog_1_method_28_code (4 : Nat) (Option.some ClassFile.FieldType.double)) ∈ mt_T := mt_m3 207 rfl rfl
theorem mw_ml_X3_257 : (Cond.methodLink "MountTable" (257 : Nat) ({ cls := "MountTable$Layer", name := "allBytesOfFiles", desc := "()I" } : MethodName)) ∈ mt_T := mt_m3 209 rfl rfl
theorem mw_im_X1_allBytesOfFiles : (Cond.instanceMethod ({ cls := "MountTable$Layer", name := "allBytesOfFiles", desc := "()I" } : MethodName)) ∈ mt_T := mt_m3 210 rfl rfl
theorem mw_se_X1_X1_allBytesOfFiles : (Cond.selects "MountTable$Layer" ({ cls := "MountTable$Layer", name := "allBytesOfFiles", desc := "()I" } : MethodName) ({ cls := "MountTable$Layer", name := "allBytesOfFiles", desc := "()I" } : MethodName)) ∈ mt_T := mt_m3 211 rfl rfl
theorem mw_co_X1_allBytesOfFiles : (Cond.code ({ cls := "MountTable$Layer", name := "allBytesOfFiles", desc := "()I" } : MethodName) prog_3_method_11_code (3 : Nat) (Option.some ClassFile.FieldType.int)) ∈ mt_T := mt_m3 212 rfl rfl
theorem mw_cl_L_103 : (Cond.classLink "MountTableLaw" (103 : Nat) "MountTableModel") ∈ mt_T := mt_m3 213 rfl rfl
theorem mw_ii_X4 : (Cond.instantiable "MountTableModel" (16 : Nat)) ∈ mt_T := mt_m3 214 rfl rfl
theorem mw_ml_L_105 : (Cond.methodLink "MountTableLaw" (105 : Nat) ({ cls := "MountTableModel", name := "<init>", desc := "()V" } : MethodName)) ∈ mt_T := mt_m3 215 rfl rfl
theorem mw_im_X4_init : (Cond.instanceMethod ({ cls := "MountTableModel", name := "<init>", desc := "()V" } : MethodName)) ∈ mt_T := mt_m3 216 rfl rfl
theorem mw_co_X4_init : (Cond.code ({ cls := "MountTableModel", name := "<init>", desc := "()V" } : MethodName) prog_6_method_1_code (2 : Nat) (Option.none : Option ClassFile.FieldType)) ∈ mt_T := mt_m3 217 rfl rfl
theorem mw_ml_X4_1 : (Cond.methodLink "MountTableModel" (1 : Nat) ({ cls := "java/lang/Object", name := "<init>", desc := "()V" } : MethodName)) ∈ mt_T := mt_m3 218 rfl rfl
theorem mw_fl_X4_7 : (Cond.fieldLink "MountTableModel" (7 : Nat) "MountTableModel" "kinds" "[I") ∈ mt_T := mt_m3 219 rfl rfl
theorem mw_fl_X4_13 : (Cond.fieldLink "MountTableModel" (13 : Nat) "MountTableModel" "owners" "[I") ∈ mt_T := mt_m3 220 rfl rfl
theorem mw_fl_X4_16 : (Cond.fieldLink "MountTableModel" (16 : Nat) "MountTableModel" "values" "[I") ∈ mt_T := mt_m3 221 rfl rfl
theorem mw_fl_X4_64 : (Cond.fieldLink "MountTableModel" (64 : Nat) "MountTableModel" "layers" "I") ∈ mt_T := mt_m3 222 rfl rfl
theorem mw_fl_X4_19 : (Cond.fieldLink "MountTableModel" (19 : Nat) "MountTableModel" "points" "[I") ∈ mt_T := mt_m3 223 rfl rfl
theorem mw_fl_X4_22 : (Cond.fieldLink "MountTableModel" (22 : Nat) "MountTableModel" "lowers" "[I") ∈ mt_T := mt_m3 224 rfl rfl
theorem mw_fl_X4_25 : (Cond.fieldLink "MountTableModel" (25 : Nat) "MountTableModel" "uppers" "[I") ∈ mt_T := mt_m3 225 rfl rfl
theorem mw_fl_X4_28 : (Cond.fieldLink "MountTableModel" (28 : Nat) "MountTableModel" "isThere" "[Z") ∈ mt_T := mt_m3 226 rfl rfl
theorem mw_fl_X4_32 : (Cond.fieldLink "MountTableModel" (32 : Nat) "MountTableModel" "isCrossing" "[Z") ∈ mt_T := mt_m3 227 rfl rfl
theorem mw_fl_X4_67 : (Cond.fieldLink "MountTableModel" (67 : Nat) "MountTableModel" "mounts" "I") ∈ mt_T := mt_m3 228 rfl rfl
theorem mw_fl_X4_35 : (Cond.fieldLink "MountTableModel" (35 : Nat) "MountTableModel" "quotas" "[I") ∈ mt_T := mt_m3 229 rfl rfl
theorem mw_fl_X4_110 : (Cond.fieldLink "MountTableModel" (110 : Nat) "MountTableModel" "copies" "I") ∈ mt_T := mt_m3 230 rfl rfl
theorem mw_fl_X4_38 : (Cond.fieldLink "MountTableModel" (38 : Nat) "MountTableModel" "kept" "[I") ∈ mt_T := mt_m3 231 rfl rfl
theorem mw_fl_X4_41 : (Cond.fieldLink "MountTableModel" (41 : Nat) "MountTableModel" "isSeen" "[Z") ∈ mt_T := mt_m3 232 rfl rfl
theorem mw_fl_X4_151 : (Cond.fieldLink "MountTableModel" (151 : Nat) "MountTableModel" "backups" "I") ∈ mt_T := mt_m3 233 rfl rfl
theorem mw_fl_X4_44 : (Cond.fieldLink "MountTableModel" (44 : Nat) "MountTableModel" "thrown" "I") ∈ mt_T := mt_m3 234 rfl rfl
theorem mw_la_X4_X4_kinds : (Cond.laysFinal "MountTableModel" "MountTableModel" "kinds" "[I") ∈ mt_T := mt_m3 235 rfl rfl
theorem mw_la_X4_X4_owners : (Cond.laysFinal "MountTableModel" "MountTableModel" "owners" "[I") ∈ mt_T := mt_m3 237 rfl rfl
theorem mw_la_X4_X4_values : (Cond.laysFinal "MountTableModel" "MountTableModel" "values" "[I") ∈ mt_T := mt_m3 239 rfl rfl
theorem mw_la_X4_X4_layers : (Cond.lays "MountTableModel" "MountTableModel" "layers" "I") ∈ mt_T := mt_m4 1 rfl rfl
theorem mw_la_X4_X4_points : (Cond.laysFinal "MountTableModel" "MountTableModel" "points" "[I") ∈ mt_T := mt_m4 3 rfl rfl
theorem mw_la_X4_X4_lowers : (Cond.laysFinal "MountTableModel" "MountTableModel" "lowers" "[I") ∈ mt_T := mt_m4 5 rfl rfl
theorem mw_la_X4_X4_uppers : (Cond.laysFinal "MountTableModel" "MountTableModel" "uppers" "[I") ∈ mt_T := mt_m4 7 rfl rfl
theorem mw_la_X4_X4_isThere : (Cond.laysFinal "MountTableModel" "MountTableModel" "isThere" "[Z") ∈ mt_T := mt_m4 9 rfl rfl
theorem mw_la_X4_X4_isCrossing : (Cond.laysFinal "MountTableModel" "MountTableModel" "isCrossing" "[Z") ∈ mt_T := mt_m4 11 rfl rfl
theorem mw_la_X4_X4_mounts : (Cond.lays "MountTableModel" "MountTableModel" "mounts" "I") ∈ mt_T := mt_m4 13 rfl rfl
theorem mw_la_X4_X4_quotas : (Cond.laysFinal "MountTableModel" "MountTableModel" "quotas" "[I") ∈ mt_T := mt_m4 15 rfl rfl
theorem mw_la_X4_X4_copies : (Cond.lays "MountTableModel" "MountTableModel" "copies" "I") ∈ mt_T := mt_m4 17 rfl rfl
theorem mw_la_X4_X4_kept : (Cond.laysFinal "MountTableModel" "MountTableModel" "kept" "[I") ∈ mt_T := mt_m4 19 rfl rfl
theorem mw_la_X4_X4_isSeen : (Cond.laysFinal "MountTableModel" "MountTableModel" "isSeen" "[Z") ∈ mt_T := mt_m4 21 rfl rfl
theorem mw_la_X4_X4_backups : (Cond.lays "MountTableModel" "MountTableModel" "backups" "I") ∈ mt_T := mt_m4 23 rfl rfl
theorem mw_la_X4_X4_thrown : (Cond.lays "MountTableModel" "MountTableModel" "thrown" "I") ∈ mt_T := mt_m4 25 rfl rfl
theorem mw_ml_L_200 : (Cond.methodLink "MountTableLaw" (200 : Nat) ({ cls := "MountTableModel", name := "thrown", desc := "()I" } : MethodName)) ∈ mt_T := mt_m4 28 rfl rfl
theorem mw_im_X4_thrown : (Cond.instanceMethod ({ cls := "MountTableModel", name := "thrown", desc := "()I" } : MethodName)) ∈ mt_T := mt_m4 29 rfl rfl
theorem mw_se_X4_X4_thrown : (Cond.selects "MountTableModel" ({ cls := "MountTableModel", name := "thrown", desc := "()I" } : MethodName) ({ cls := "MountTableModel", name := "thrown", desc := "()I" } : MethodName)) ∈ mt_T := mt_m4 30 rfl rfl
theorem mw_co_X4_thrown : (Cond.code ({ cls := "MountTableModel", name := "thrown", desc := "()I" } : MethodName) prog_6_method_2_code (1 : Nat) (Option.some ClassFile.FieldType.int)) ∈ mt_T := mt_m4 31 rfl rfl
theorem mw_ml_L_111 : (Cond.methodLink "MountTableLaw" (111 : Nat) ({ cls := "MountTableModel", name := "addLayer", desc := "()I" } : MethodName)) ∈ mt_T := mt_m4 32 rfl rfl
theorem mw_im_X4_addLayer : (Cond.instanceMethod ({ cls := "MountTableModel", name := "addLayer", desc := "()I" } : MethodName)) ∈ mt_T := mt_m4 33 rfl rfl
theorem mw_se_X4_X4_addLayer : (Cond.selects "MountTableModel" ({ cls := "MountTableModel", name := "addLayer", desc := "()I" } : MethodName) ({ cls := "MountTableModel", name := "addLayer", desc := "()I" } : MethodName)) ∈ mt_T := mt_m4 34 rfl rfl
theorem mw_co_X4_addLayer : (Cond.code ({ cls := "MountTableModel", name := "addLayer", desc := "()I" } : MethodName) prog_6_method_11_code (1 : Nat) (Option.some ClassFile.FieldType.int)) ∈ mt_T := mt_m4 35 rfl rfl
theorem mw_ml_L_115 : (Cond.methodLink "MountTableLaw" (115 : Nat) ({ cls := "MountTableModel", name := "mount", desc := "(III)I" } : MethodName)) ∈ mt_T := mt_m4 36 rfl rfl
theorem mw_im_X4_mount : (Cond.instanceMethod ({ cls := "MountTableModel", name := "mount", desc := "(III)I" } : MethodName)) ∈ mt_T := mt_m4 37 rfl rfl
theorem mw_se_X4_X4_mount : (Cond.selects "MountTableModel" ({ cls := "MountTableModel", name := "mount", desc := "(III)I" } : MethodName) ({ cls := "MountTableModel", name := "mount", desc := "(III)I" } : MethodName)) ∈ mt_T := mt_m4 38 rfl rfl
theorem mw_co_X4_mount : (Cond.code ({ cls := "MountTableModel", name := "mount", desc := "(III)I" } : MethodName) prog_6_method_15_code (5 : Nat) (Option.some ClassFile.FieldType.int)) ∈ mt_T := mt_m4 39 rfl rfl
theorem mw_ml_X4_70 : (Cond.methodLink "MountTableModel" (70 : Nat) ({ cls := "MountTableModel", name := "isPath", desc := "(I)Z" } : MethodName)) ∈ mt_T := mt_m4 40 rfl rfl
theorem mw_st_X4_isPath : (Cond.static ({ cls := "MountTableModel", name := "isPath", desc := "(I)Z" } : MethodName)) ∈ mt_T := mt_m4 41 rfl rfl
theorem mw_co_X4_isPath : (Cond.code ({ cls := "MountTableModel", name := "isPath", desc := "(I)Z" } : MethodName) prog_6_method_4_code (3 : Nat) (Option.some ClassFile.FieldType.boolean)) ∈ mt_T := mt_m4 42 rfl rfl
theorem mw_cn_X4_48 : (Cond.constantLong "MountTableModel" (48 : Nat) (4444 : Int64)) ∈ mt_T := mt_m4 43 rfl rfl
theorem mw_ml_X4_50 : (Cond.methodLink "MountTableModel" (50 : Nat) ({ cls := "MountTableModel", name := "in", desc := "(JJJ)Z" } : MethodName)) ∈ mt_T := mt_m4 44 rfl rfl
theorem mw_st_X4_in : (Cond.static ({ cls := "MountTableModel", name := "in", desc := "(JJJ)Z" } : MethodName)) ∈ mt_T := mt_m4 45 rfl rfl
theorem mw_co_X4_in : (Cond.code ({ cls := "MountTableModel", name := "in", desc := "(JJJ)Z" } : MethodName) prog_6_method_3_code (6 : Nat) (Option.some ClassFile.FieldType.boolean)) ∈ mt_T := mt_m4 46 rfl rfl
theorem mw_cn_X4_54 : (Cond.constantLong "MountTableModel" (54 : Nat) (4 : Int64)) ∈ mt_T := mt_m4 47 rfl rfl
theorem mw_ml_X4_74 : (Cond.methodLink "MountTableModel" (74 : Nat) ({ cls := "MountTableModel", name := "isLayer", desc := "(I)Z" } : MethodName)) ∈ mt_T := mt_m4 48 rfl rfl
theorem mw_im_X4_isLayer : (Cond.instanceMethod ({ cls := "MountTableModel", name := "isLayer", desc := "(I)Z" } : MethodName)) ∈ mt_T := mt_m4 50 rfl rfl
theorem mw_co_X4_isLayer : (Cond.code ({ cls := "MountTableModel", name := "isLayer", desc := "(I)Z" } : MethodName) prog_6_method_12_code (2 : Nat) (Option.some ClassFile.FieldType.boolean)) ∈ mt_T := mt_m4 51 rfl rfl
theorem mw_ml_X4_77 : (Cond.methodLink "MountTableModel" (77 : Nat) ({ cls := "MountTableModel", name := "isUpper", desc := "(I)Z" } : MethodName)) ∈ mt_T := mt_m4 52 rfl rfl
theorem mw_im_X4_isUpper : (Cond.instanceMethod ({ cls := "MountTableModel", name := "isUpper", desc := "(I)Z" } : MethodName)) ∈ mt_T := mt_m4 54 rfl rfl
theorem mw_co_X4_isUpper : (Cond.code ({ cls := "MountTableModel", name := "isUpper", desc := "(I)Z" } : MethodName) prog_6_method_13_code (4 : Nat) (Option.some ClassFile.FieldType.boolean)) ∈ mt_T := mt_m4 55 rfl rfl
theorem mw_ml_X4_80 : (Cond.methodLink "MountTableModel" (80 : Nat) ({ cls := "MountTableModel", name := "isUsed", desc := "(I)Z" } : MethodName)) ∈ mt_T := mt_m4 56 rfl rfl
theorem mw_im_X4_isUsed : (Cond.instanceMethod ({ cls := "MountTableModel", name := "isUsed", desc := "(I)Z" } : MethodName)) ∈ mt_T := mt_m4 58 rfl rfl
theorem mw_co_X4_isUsed : (Cond.code ({ cls := "MountTableModel", name := "isUsed", desc := "(I)Z" } : MethodName) prog_6_method_14_code (4 : Nat) (Option.some ClassFile.FieldType.boolean)) ∈ mt_T := mt_m4 59 rfl rfl
theorem mw_ml_L_119 : (Cond.methodLink "MountTableLaw" (119 : Nat) ({ cls := "MountTableModel", name := "unmount", desc := "(I)I" } : MethodName)) ∈ mt_T := mt_m4 60 rfl rfl
theorem mw_im_X4_unmount : (Cond.instanceMethod ({ cls := "MountTableModel", name := "unmount", desc := "(I)I" } : MethodName)) ∈ mt_T := mt_m4 61 rfl rfl
theorem mw_se_X4_X4_unmount : (Cond.selects "MountTableModel" ({ cls := "MountTableModel", name := "unmount", desc := "(I)I" } : MethodName) ({ cls := "MountTableModel", name := "unmount", desc := "(I)I" } : MethodName)) ∈ mt_T := mt_m4 62 rfl rfl
theorem mw_co_X4_unmount : (Cond.code ({ cls := "MountTableModel", name := "unmount", desc := "(I)I" } : MethodName) prog_6_method_17_code (4 : Nat) (Option.some ClassFile.FieldType.int)) ∈ mt_T := mt_m4 63 rfl rfl
theorem mw_ml_X4_83 : (Cond.methodLink "MountTableModel" (83 : Nat) ({ cls := "MountTableModel", name := "isMount", desc := "(I)Z" } : MethodName)) ∈ mt_T := mt_m4 64 rfl rfl
theorem mw_im_X4_isMount : (Cond.instanceMethod ({ cls := "MountTableModel", name := "isMount", desc := "(I)Z" } : MethodName)) ∈ mt_T := mt_m4 66 rfl rfl
theorem mw_co_X4_isMount : (Cond.code ({ cls := "MountTableModel", name := "isMount", desc := "(I)Z" } : MethodName) prog_6_method_16_code (2 : Nat) (Option.some ClassFile.FieldType.boolean)) ∈ mt_T := mt_m4 67 rfl rfl
theorem mw_ml_L_123 : (Cond.methodLink "MountTableLaw" (123 : Nat) ({ cls := "MountTableModel", name := "move", desc := "(II)I" } : MethodName)) ∈ mt_T := mt_m4 68 rfl rfl
theorem mw_im_X4_move : (Cond.instanceMethod ({ cls := "MountTableModel", name := "move", desc := "(II)I" } : MethodName)) ∈ mt_T := mt_m4 69 rfl rfl
theorem mw_se_X4_X4_move : (Cond.selects "MountTableModel" ({ cls := "MountTableModel", name := "move", desc := "(II)I" } : MethodName) ({ cls := "MountTableModel", name := "move", desc := "(II)I" } : MethodName)) ∈ mt_T := mt_m4 70 rfl rfl
theorem mw_co_X4_move : (Cond.code ({ cls := "MountTableModel", name := "move", desc := "(II)I" } : MethodName) prog_6_method_18_code (4 : Nat) (Option.some ClassFile.FieldType.int)) ∈ mt_T := mt_m4 71 rfl rfl
theorem mw_ml_L_127 : (Cond.methodLink "MountTableLaw" (127 : Nat) ({ cls := "MountTableModel", name := "setCrossing", desc := "(IZ)Z" } : MethodName)) ∈ mt_T := mt_m4 72 rfl rfl
theorem mw_im_X4_setCrossing : (Cond.instanceMethod ({ cls := "MountTableModel", name := "setCrossing", desc := "(IZ)Z" } : MethodName)) ∈ mt_T := mt_m4 73 rfl rfl
theorem mw_se_X4_X4_setCrossing : (Cond.selects "MountTableModel" ({ cls := "MountTableModel", name := "setCrossing", desc := "(IZ)Z" } : MethodName) ({ cls := "MountTableModel", name := "setCrossing", desc := "(IZ)Z" } : MethodName)) ∈ mt_T := mt_m4 74 rfl rfl
theorem mw_co_X4_setCrossing : (Cond.code ({ cls := "MountTableModel", name := "setCrossing", desc := "(IZ)Z" } : MethodName) prog_6_method_19_code (4 : Nat) (Option.some ClassFile.FieldType.boolean)) ∈ mt_T := mt_m4 75 rfl rfl
theorem mw_ml_L_130 : (Cond.methodLink "MountTableLaw" (130 : Nat) ({ cls := "MountTableModel", name := "served", desc := "(I)I" } : MethodName)) ∈ mt_T := mt_m4 76 rfl rfl
theorem mw_im_X4_served : (Cond.instanceMethod ({ cls := "MountTableModel", name := "served", desc := "(I)I" } : MethodName)) ∈ mt_T := mt_m4 77 rfl rfl
theorem mw_se_X4_X4_served : (Cond.selects "MountTableModel" ({ cls := "MountTableModel", name := "served", desc := "(I)I" } : MethodName) ({ cls := "MountTableModel", name := "served", desc := "(I)I" } : MethodName)) ∈ mt_T := mt_m4 78 rfl rfl
theorem mw_co_X4_served : (Cond.code ({ cls := "MountTableModel", name := "served", desc := "(I)I" } : MethodName) prog_6_method_21_code (2 : Nat) (Option.some ClassFile.FieldType.int)) ∈ mt_T := mt_m4 79 rfl rfl
theorem mw_ml_X4_90 : (Cond.methodLink "MountTableModel" (90 : Nat) ({ cls := "MountTableModel", name := "servedBy", desc := "(I)I" } : MethodName)) ∈ mt_T := mt_m4 80 rfl rfl
theorem mw_im_X4_servedBy : (Cond.instanceMethod ({ cls := "MountTableModel", name := "servedBy", desc := "(I)I" } : MethodName)) ∈ mt_T := mt_m4 82 rfl rfl
theorem mw_co_X4_servedBy : (Cond.code ({ cls := "MountTableModel", name := "servedBy", desc := "(I)I" } : MethodName) prog_6_method_20_code (4 : Nat) (Option.some ClassFile.FieldType.int)) ∈ mt_T := mt_m4 83 rfl rfl
theorem mw_ml_X4_86 : (Cond.methodLink "MountTableModel" (86 : Nat) ({ cls := "MountTableModel", name := "begins", desc := "(II)Z" } : MethodName)) ∈ mt_T := mt_m4 84 rfl rfl
theorem mw_st_X4_begins : (Cond.static ({ cls := "MountTableModel", name := "begins", desc := "(II)Z" } : MethodName)) ∈ mt_T := mt_m4 85 rfl rfl
theorem mw_co_X4_begins : (Cond.code ({ cls := "MountTableModel", name := "begins", desc := "(II)Z" } : MethodName) prog_6_method_9_code (3 : Nat) (Option.some ClassFile.FieldType.boolean)) ∈ mt_T := mt_m4 86 rfl rfl
theorem mw_ml_X4_56 : (Cond.methodLink "MountTableModel" (56 : Nat) ({ cls := "MountTableModel", name := "digits", desc := "(I)I" } : MethodName)) ∈ mt_T := mt_m4 87 rfl rfl
theorem mw_st_X4_digits : (Cond.static ({ cls := "MountTableModel", name := "digits", desc := "(I)I" } : MethodName)) ∈ mt_T := mt_m4 88 rfl rfl
theorem mw_co_X4_digits : (Cond.code ({ cls := "MountTableModel", name := "digits", desc := "(I)I" } : MethodName) prog_6_method_5_code (3 : Nat) (Option.some ClassFile.FieldType.int)) ∈ mt_T := mt_m4 89 rfl rfl
theorem mw_ml_X4_60 : (Cond.methodLink "MountTableModel" (60 : Nat) ({ cls := "MountTableModel", name := "power", desc := "(II)I" } : MethodName)) ∈ mt_T := mt_m4 90 rfl rfl
theorem mw_st_X4_power : (Cond.static ({ cls := "MountTableModel", name := "power", desc := "(II)I" } : MethodName)) ∈ mt_T := mt_m4 91 rfl rfl
theorem mw_co_X4_power : (Cond.code ({ cls := "MountTableModel", name := "power", desc := "(II)I" } : MethodName) prog_6_method_6_code (4 : Nat) (Option.some ClassFile.FieldType.int)) ∈ mt_T := mt_m4 92 rfl rfl
theorem mw_ml_L_134 : (Cond.methodLink "MountTableLaw" (134 : Nat) ({ cls := "MountTableModel", name := "covered", desc := "()I" } : MethodName)) ∈ mt_T := mt_m4 93 rfl rfl
theorem mw_im_X4_covered : (Cond.instanceMethod ({ cls := "MountTableModel", name := "covered", desc := "()I" } : MethodName)) ∈ mt_T := mt_m4 94 rfl rfl
theorem mw_se_X4_X4_covered : (Cond.selects "MountTableModel" ({ cls := "MountTableModel", name := "covered", desc := "()I" } : MethodName) ({ cls := "MountTableModel", name := "covered", desc := "()I" } : MethodName)) ∈ mt_T := mt_m4 95 rfl rfl
theorem mw_co_X4_covered : (Cond.code ({ cls := "MountTableModel", name := "covered", desc := "()I" } : MethodName) prog_6_method_22_code (5 : Nat) (Option.some ClassFile.FieldType.int)) ∈ mt_T := mt_m4 96 rfl rfl
theorem mw_ml_X4_93 : (Cond.methodLink "MountTableModel" (93 : Nat) ({ cls := "MountTableModel", name := "pathOf", desc := "(I)I" } : MethodName)) ∈ mt_T := mt_m4 97 rfl rfl
theorem mw_st_X4_pathOf : (Cond.static ({ cls := "MountTableModel", name := "pathOf", desc := "(I)I" } : MethodName)) ∈ mt_T := mt_m4 98 rfl rfl
theorem mw_co_X4_pathOf : (Cond.code ({ cls := "MountTableModel", name := "pathOf", desc := "(I)I" } : MethodName) prog_6_method_8_code (5 : Nat) (Option.some ClassFile.FieldType.int)) ∈ mt_T := mt_m4 99 rfl rfl
theorem mw_ml_L_137 : (Cond.methodLink "MountTableLaw" (137 : Nat) ({ cls := "MountTableModel", name := "write", desc := "(III)I" } : MethodName)) ∈ mt_T := mt_m4 100 rfl rfl
theorem mw_im_X4_write : (Cond.instanceMethod ({ cls := "MountTableModel", name := "write", desc := "(III)I" } : MethodName)) ∈ mt_T := mt_m4 101 rfl rfl
theorem mw_se_X4_X4_write : (Cond.selects "MountTableModel" ({ cls := "MountTableModel", name := "write", desc := "(III)I" } : MethodName) ({ cls := "MountTableModel", name := "write", desc := "(III)I" } : MethodName)) ∈ mt_T := mt_m4 102 rfl rfl
theorem mw_co_X4_write : (Cond.code ({ cls := "MountTableModel", name := "write", desc := "(III)I" } : MethodName) prog_6_method_29_code (5 : Nat) (Option.some ClassFile.FieldType.int)) ∈ mt_T := mt_m4 103 rfl rfl
theorem mw_ml_X4_113 : (Cond.methodLink "MountTableModel" (113 : Nat) ({ cls := "MountTableModel", name := "isOwner", desc := "(I)Z" } : MethodName)) ∈ mt_T := mt_m4 104 rfl rfl
theorem mw_st_X4_isOwner : (Cond.static ({ cls := "MountTableModel", name := "isOwner", desc := "(I)Z" } : MethodName)) ∈ mt_T := mt_m4 105 rfl rfl
theorem mw_co_X4_isOwner : (Cond.code ({ cls := "MountTableModel", name := "isOwner", desc := "(I)Z" } : MethodName) prog_6_method_25_code (1 : Nat) (Option.some ClassFile.FieldType.boolean)) ∈ mt_T := mt_m4 106 rfl rfl
theorem mw_cn_X4_102 : (Cond.constantLong "MountTableModel" (102 : Nat) (3 : Int64)) ∈ mt_T := mt_m4 107 rfl rfl
theorem mw_cn_X4_116 : (Cond.constantLong "MountTableModel" (116 : Nat) (9999 : Int64)) ∈ mt_T := mt_m4 108 rfl rfl
theorem mw_ml_X4_118 : (Cond.methodLink "MountTableModel" (118 : Nat) ({ cls := "MountTableModel", name := "canWrite", desc := "(I)Z" } : MethodName)) ∈ mt_T := mt_m4 109 rfl rfl
theorem mw_im_X4_canWrite : (Cond.instanceMethod ({ cls := "MountTableModel", name := "canWrite", desc := "(I)Z" } : MethodName)) ∈ mt_T := mt_m4 111 rfl rfl
theorem mw_co_X4_canWrite : (Cond.code ({ cls := "MountTableModel", name := "canWrite", desc := "(I)Z" } : MethodName) prog_6_method_26_code (3 : Nat) (Option.some ClassFile.FieldType.boolean)) ∈ mt_T := mt_m4 112 rfl rfl
theorem mw_ml_X4_96 : (Cond.methodLink "MountTableModel" (96 : Nat) ({ cls := "MountTableModel", name := "rest", desc := "(II)I" } : MethodName)) ∈ mt_T := mt_m4 113 rfl rfl
theorem mw_st_X4_rest : (Cond.static ({ cls := "MountTableModel", name := "rest", desc := "(II)I" } : MethodName)) ∈ mt_T := mt_m4 114 rfl rfl
theorem mw_co_X4_rest : (Cond.code ({ cls := "MountTableModel", name := "rest", desc := "(II)I" } : MethodName) prog_6_method_10_code (2 : Nat) (Option.some ClassFile.FieldType.int)) ∈ mt_T := mt_m4 115 rfl rfl
theorem mw_ml_X4_104 : (Cond.methodLink "MountTableModel" (104 : Nat) ({ cls := "MountTableModel", name := "target", desc := "(I)I" } : MethodName)) ∈ mt_T := mt_m4 116 rfl rfl
theorem mw_im_X4_target : (Cond.instanceMethod ({ cls := "MountTableModel", name := "target", desc := "(I)I" } : MethodName)) ∈ mt_T := mt_m4 118 rfl rfl
theorem mw_co_X4_target : (Cond.code ({ cls := "MountTableModel", name := "target", desc := "(I)I" } : MethodName) prog_6_method_27_code (3 : Nat) (Option.some ClassFile.FieldType.int)) ∈ mt_T := mt_m4 119 rfl rfl
theorem mw_ml_X4_99 : (Cond.methodLink "MountTableModel" (99 : Nat) ({ cls := "MountTableModel", name := "rank", desc := "(I)I" } : MethodName)) ∈ mt_T := mt_m4 120 rfl rfl
theorem mw_st_X4_rank : (Cond.static ({ cls := "MountTableModel", name := "rank", desc := "(I)I" } : MethodName)) ∈ mt_T := mt_m4 121 rfl rfl
theorem mw_co_X4_rank : (Cond.code ({ cls := "MountTableModel", name := "rank", desc := "(I)I" } : MethodName) prog_6_method_7_code (4 : Nat) (Option.some ClassFile.FieldType.int)) ∈ mt_T := mt_m4 122 rfl rfl
theorem mw_ml_X4_121 : (Cond.methodLink "MountTableModel" (121 : Nat) ({ cls := "MountTableModel", name := "used", desc := "(II)I" } : MethodName)) ∈ mt_T := mt_m4 123 rfl rfl
theorem mw_im_X4_used : (Cond.instanceMethod ({ cls := "MountTableModel", name := "used", desc := "(II)I" } : MethodName)) ∈ mt_T := mt_m4 125 rfl rfl
theorem mw_co_X4_used : (Cond.code ({ cls := "MountTableModel", name := "used", desc := "(II)I" } : MethodName) prog_6_method_24_code (5 : Nat) (Option.some ClassFile.FieldType.int)) ∈ mt_T := mt_m4 126 rfl rfl
theorem mw_ml_X4_124 : (Cond.methodLink "MountTableModel" (124 : Nat) ({ cls := "MountTableModel", name := "puts", desc := "(IIII)V" } : MethodName)) ∈ mt_T := mt_m4 127 rfl rfl
theorem mw_im_X4_puts : (Cond.instanceMethod ({ cls := "MountTableModel", name := "puts", desc := "(IIII)V" } : MethodName)) ∈ mt_T := mt_m4 129 rfl rfl
theorem mw_co_X4_puts : (Cond.code ({ cls := "MountTableModel", name := "puts", desc := "(IIII)V" } : MethodName) prog_6_method_28_code (7 : Nat) (Option.none : Option ClassFile.FieldType)) ∈ mt_T := mt_m4 130 rfl rfl
theorem mw_ml_X4_107 : (Cond.methodLink "MountTableModel" (107 : Nat) ({ cls := "MountTableModel", name := "shown", desc := "(I)I" } : MethodName)) ∈ mt_T := mt_m4 131 rfl rfl
theorem mw_im_X4_shown : (Cond.instanceMethod ({ cls := "MountTableModel", name := "shown", desc := "(I)I" } : MethodName)) ∈ mt_T := mt_m4 133 rfl rfl
theorem mw_co_X4_shown : (Cond.code ({ cls := "MountTableModel", name := "shown", desc := "(I)I" } : MethodName) prog_6_method_23_code (6 : Nat) (Option.some ClassFile.FieldType.int)) ∈ mt_T := mt_m4 134 rfl rfl
theorem mw_ml_L_140 : (Cond.methodLink "MountTableLaw" (140 : Nat) ({ cls := "MountTableModel", name := "link", desc := "(III)I" } : MethodName)) ∈ mt_T := mt_m4 135 rfl rfl
theorem mw_im_X4_link : (Cond.instanceMethod ({ cls := "MountTableModel", name := "link", desc := "(III)I" } : MethodName)) ∈ mt_T := mt_m4 136 rfl rfl
theorem mw_se_X4_X4_link : (Cond.selects "MountTableModel" ({ cls := "MountTableModel", name := "link", desc := "(III)I" } : MethodName) ({ cls := "MountTableModel", name := "link", desc := "(III)I" } : MethodName)) ∈ mt_T := mt_m4 137 rfl rfl
theorem mw_co_X4_link : (Cond.code ({ cls := "MountTableModel", name := "link", desc := "(III)I" } : MethodName) prog_6_method_30_code (6 : Nat) (Option.some ClassFile.FieldType.int)) ∈ mt_T := mt_m4 138 rfl rfl
theorem mw_ml_L_143 : (Cond.methodLink "MountTableLaw" (143 : Nat) ({ cls := "MountTableModel", name := "remove", desc := "(I)I" } : MethodName)) ∈ mt_T := mt_m4 139 rfl rfl
theorem mw_im_X4_remove : (Cond.instanceMethod ({ cls := "MountTableModel", name := "remove", desc := "(I)I" } : MethodName)) ∈ mt_T := mt_m4 140 rfl rfl
theorem mw_se_X4_X4_remove : (Cond.selects "MountTableModel" ({ cls := "MountTableModel", name := "remove", desc := "(I)I" } : MethodName) ({ cls := "MountTableModel", name := "remove", desc := "(I)I" } : MethodName)) ∈ mt_T := mt_m4 141 rfl rfl
theorem mw_co_X4_remove : (Cond.code ({ cls := "MountTableModel", name := "remove", desc := "(I)I" } : MethodName) prog_6_method_32_code (7 : Nat) (Option.some ClassFile.FieldType.int)) ∈ mt_T := mt_m4 142 rfl rfl
theorem mw_ml_X4_128 : (Cond.methodLink "MountTableModel" (128 : Nat) ({ cls := "MountTableModel", name := "asks", desc := "(I)Z" } : MethodName)) ∈ mt_T := mt_m4 143 rfl rfl
theorem mw_im_X4_asks : (Cond.instanceMethod ({ cls := "MountTableModel", name := "asks", desc := "(I)Z" } : MethodName)) ∈ mt_T := mt_m4 145 rfl rfl
theorem mw_co_X4_asks : (Cond.code ({ cls := "MountTableModel", name := "asks", desc := "(I)Z" } : MethodName) prog_6_method_31_code (2 : Nat) (Option.some ClassFile.FieldType.boolean)) ∈ mt_T := mt_m4 146 rfl rfl
theorem mw_ml_L_146 : (Cond.methodLink "MountTableLaw" (146 : Nat) ({ cls := "MountTableModel", name := "shows", desc := "(I)C" } : MethodName)) ∈ mt_T := mt_m4 147 rfl rfl
theorem mw_im_X4_shows : (Cond.instanceMethod ({ cls := "MountTableModel", name := "shows", desc := "(I)C" } : MethodName)) ∈ mt_T := mt_m4 148 rfl rfl
theorem mw_se_X4_X4_shows : (Cond.selects "MountTableModel" ({ cls := "MountTableModel", name := "shows", desc := "(I)C" } : MethodName) ({ cls := "MountTableModel", name := "shows", desc := "(I)C" } : MethodName)) ∈ mt_T := mt_m4 149 rfl rfl
theorem mw_co_X4_shows : (Cond.code ({ cls := "MountTableModel", name := "shows", desc := "(I)C" } : MethodName) prog_6_method_33_code (3 : Nat) (Option.some ClassFile.FieldType.char)) ∈ mt_T := mt_m4 150 rfl rfl
theorem mw_ml_L_149 : (Cond.methodLink "MountTableLaw" (149 : Nat) ({ cls := "MountTableModel", name := "layerOf", desc := "(I)I" } : MethodName)) ∈ mt_T := mt_m4 151 rfl rfl
theorem mw_im_X4_layerOf : (Cond.instanceMethod ({ cls := "MountTableModel", name := "layerOf", desc := "(I)I" } : MethodName)) ∈ mt_T := mt_m4 152 rfl rfl
theorem mw_se_X4_X4_layerOf : (Cond.selects "MountTableModel" ({ cls := "MountTableModel", name := "layerOf", desc := "(I)I" } : MethodName) ({ cls := "MountTableModel", name := "layerOf", desc := "(I)I" } : MethodName)) ∈ mt_T := mt_m4 153 rfl rfl
theorem mw_co_X4_layerOf : (Cond.code ({ cls := "MountTableModel", name := "layerOf", desc := "(I)I" } : MethodName) prog_6_method_35_code (2 : Nat) (Option.some ClassFile.FieldType.int)) ∈ mt_T := mt_m4 154 rfl rfl
theorem mw_ml_X4_131 : (Cond.methodLink "MountTableModel" (131 : Nat) ({ cls := "MountTableModel", name := "asksShown", desc := "(I)Z" } : MethodName)) ∈ mt_T := mt_m4 155 rfl rfl
theorem mw_im_X4_asksShown : (Cond.instanceMethod ({ cls := "MountTableModel", name := "asksShown", desc := "(I)Z" } : MethodName)) ∈ mt_T := mt_m4 157 rfl rfl
theorem mw_co_X4_asksShown : (Cond.code ({ cls := "MountTableModel", name := "asksShown", desc := "(I)Z" } : MethodName) prog_6_method_34_code (2 : Nat) (Option.some ClassFile.FieldType.boolean)) ∈ mt_T := mt_m4 158 rfl rfl
theorem mw_ml_L_152 : (Cond.methodLink "MountTableLaw" (152 : Nat) ({ cls := "MountTableModel", name := "end", desc := "(I)I" } : MethodName)) ∈ mt_T := mt_m4 159 rfl rfl
theorem mw_im_X4_end : (Cond.instanceMethod ({ cls := "MountTableModel", name := "end", desc := "(I)I" } : MethodName)) ∈ mt_T := mt_m4 160 rfl rfl
theorem mw_se_X4_X4_end : (Cond.selects "MountTableModel" ({ cls := "MountTableModel", name := "end", desc := "(I)I" } : MethodName) ({ cls := "MountTableModel", name := "end", desc := "(I)I" } : MethodName)) ∈ mt_T := mt_m4 161 rfl rfl
theorem mw_co_X4_end : (Cond.code ({ cls := "MountTableModel", name := "end", desc := "(I)I" } : MethodName) prog_6_method_36_code (6 : Nat) (Option.some ClassFile.FieldType.int)) ∈ mt_T := mt_m4 162 rfl rfl
theorem mw_ml_L_155 : (Cond.methodLink "MountTableLaw" (155 : Nat) ({ cls := "MountTableModel", name := "size", desc := "(I)I" } : MethodName)) ∈ mt_T := mt_m4 163 rfl rfl
theorem mw_im_X4_size : (Cond.instanceMethod ({ cls := "MountTableModel", name := "size", desc := "(I)I" } : MethodName)) ∈ mt_T := mt_m4 164 rfl rfl
theorem mw_se_X4_X4_size : (Cond.selects "MountTableModel" ({ cls := "MountTableModel", name := "size", desc := "(I)I" } : MethodName) ({ cls := "MountTableModel", name := "size", desc := "(I)I" } : MethodName)) ∈ mt_T := mt_m4 165 rfl rfl
theorem mw_co_X4_size : (Cond.code ({ cls := "MountTableModel", name := "size", desc := "(I)I" } : MethodName) prog_6_method_37_code (4 : Nat) (Option.some ClassFile.FieldType.int)) ∈ mt_T := mt_m4 166 rfl rfl
theorem mw_ml_X4_134 : (Cond.methodLink "MountTableModel" (134 : Nat) ({ cls := "MountTableModel", name := "end", desc := "(I)I" } : MethodName)) ∈ mt_T := mt_m4 167 rfl rfl
theorem mw_ml_L_158 : (Cond.methodLink "MountTableLaw" (158 : Nat) ({ cls := "MountTableModel", name := "sizeByWalking", desc := "(I)I" } : MethodName)) ∈ mt_T := mt_m4 168 rfl rfl
theorem mw_im_X4_sizeByWalking : (Cond.instanceMethod ({ cls := "MountTableModel", name := "sizeByWalking", desc := "(I)I" } : MethodName)) ∈ mt_T := mt_m4 169 rfl rfl
theorem mw_se_X4_X4_sizeByWalking : (Cond.selects "MountTableModel" ({ cls := "MountTableModel", name := "sizeByWalking", desc := "(I)I" } : MethodName) ({ cls := "MountTableModel", name := "sizeByWalking", desc := "(I)I" } : MethodName)) ∈ mt_T := mt_m4 170 rfl rfl
theorem mw_co_X4_sizeByWalking : (Cond.code ({ cls := "MountTableModel", name := "sizeByWalking", desc := "(I)I" } : MethodName) prog_6_method_38_code (3 : Nat) (Option.some ClassFile.FieldType.int)) ∈ mt_T := mt_m4 171 rfl rfl
theorem mw_ml_L_161 : (Cond.methodLink "MountTableLaw" (161 : Nat) ({ cls := "MountTableModel", name := "ownerOf", desc := "(I)I" } : MethodName)) ∈ mt_T := mt_m4 172 rfl rfl
theorem mw_im_X4_ownerOf : (Cond.instanceMethod ({ cls := "MountTableModel", name := "ownerOf", desc := "(I)I" } : MethodName)) ∈ mt_T := mt_m4 173 rfl rfl
theorem mw_se_X4_X4_ownerOf : (Cond.selects "MountTableModel" ({ cls := "MountTableModel", name := "ownerOf", desc := "(I)I" } : MethodName) ({ cls := "MountTableModel", name := "ownerOf", desc := "(I)I" } : MethodName)) ∈ mt_T := mt_m4 174 rfl rfl
theorem mw_co_X4_ownerOf : (Cond.code ({ cls := "MountTableModel", name := "ownerOf", desc := "(I)I" } : MethodName) prog_6_method_39_code (2 : Nat) (Option.some ClassFile.FieldType.int)) ∈ mt_T := mt_m4 175 rfl rfl
theorem mw_ml_L_164 : (Cond.methodLink "MountTableLaw" (164 : Nat) ({ cls := "MountTableModel", name := "setQuota", desc := "(II)I" } : MethodName)) ∈ mt_T := mt_m4 176 rfl rfl
theorem mw_im_X4_setQuota : (Cond.instanceMethod ({ cls := "MountTableModel", name := "setQuota", desc := "(II)I" } : MethodName)) ∈ mt_T := mt_m4 177 rfl rfl
theorem mw_se_X4_X4_setQuota : (Cond.selects "MountTableModel" ({ cls := "MountTableModel", name := "setQuota", desc := "(II)I" } : MethodName) ({ cls := "MountTableModel", name := "setQuota", desc := "(II)I" } : MethodName)) ∈ mt_T := mt_m4 178 rfl rfl
theorem mw_co_X4_setQuota : (Cond.code ({ cls := "MountTableModel", name := "setQuota", desc := "(II)I" } : MethodName) prog_6_method_40_code (4 : Nat) (Option.some ClassFile.FieldType.int)) ∈ mt_T := mt_m4 179 rfl rfl
theorem mw_cn_X4_137 : (Cond.constantLong "MountTableModel" (137 : Nat) (99999 : Int64)) ∈ mt_T := mt_m4 180 rfl rfl
theorem mw_ml_L_167 : (Cond.methodLink "MountTableLaw" (167 : Nat) ({ cls := "MountTableModel", name := "used", desc := "(I)I" } : MethodName)) ∈ mt_T := mt_m4 181 rfl rfl
theorem mw_im_X4_used_ : (Cond.instanceMethod ({ cls := "MountTableModel", name := "used", desc := "(I)I" } : MethodName)) ∈ mt_T := mt_m4 182 rfl rfl
theorem mw_se_X4_X4_used_ : (Cond.selects "MountTableModel" ({ cls := "MountTableModel", name := "used", desc := "(I)I" } : MethodName) ({ cls := "MountTableModel", name := "used", desc := "(I)I" } : MethodName)) ∈ mt_T := mt_m4 183 rfl rfl
theorem mw_co_X4_used_ : (Cond.code ({ cls := "MountTableModel", name := "used", desc := "(I)I" } : MethodName) prog_6_method_41_code (2 : Nat) (Option.some ClassFile.FieldType.int)) ∈ mt_T := mt_m4 184 rfl rfl
theorem mw_ml_L_170 : (Cond.methodLink "MountTableLaw" (170 : Nat) ({ cls := "MountTableModel", name := "usedByLayers", desc := "(I)I" } : MethodName)) ∈ mt_T := mt_m4 185 rfl rfl
theorem mw_im_X4_usedByLayers : (Cond.instanceMethod ({ cls := "MountTableModel", name := "usedByLayers", desc := "(I)I" } : MethodName)) ∈ mt_T := mt_m4 186 rfl rfl
theorem mw_se_X4_X4_usedByLayers : (Cond.selects "MountTableModel" ({ cls := "MountTableModel", name := "usedByLayers", desc := "(I)I" } : MethodName) ({ cls := "MountTableModel", name := "usedByLayers", desc := "(I)I" } : MethodName)) ∈ mt_T := mt_m4 187 rfl rfl
theorem mw_co_X4_usedByLayers : (Cond.code ({ cls := "MountTableModel", name := "usedByLayers", desc := "(I)I" } : MethodName) prog_6_method_42_code (2 : Nat) (Option.some ClassFile.FieldType.int)) ∈ mt_T := mt_m4 188 rfl rfl
theorem mw_ml_X4_139 : (Cond.methodLink "MountTableModel" (139 : Nat) ({ cls := "MountTableModel", name := "used", desc := "(I)I" } : MethodName)) ∈ mt_T := mt_m4 189 rfl rfl
theorem mw_ml_L_174 : (Cond.methodLink "MountTableLaw" (174 : Nat) ({ cls := "MountTableModel", name := "hidden", desc := "()I" } : MethodName)) ∈ mt_T := mt_m4 190 rfl rfl
theorem mw_im_X4_hidden : (Cond.instanceMethod ({ cls := "MountTableModel", name := "hidden", desc := "()I" } : MethodName)) ∈ mt_T := mt_m4 191 rfl rfl
theorem mw_se_X4_X4_hidden : (Cond.selects "MountTableModel" ({ cls := "MountTableModel", name := "hidden", desc := "()I" } : MethodName) ({ cls := "MountTableModel", name := "hidden", desc := "()I" } : MethodName)) ∈ mt_T := mt_m4 192 rfl rfl
theorem mw_co_X4_hidden : (Cond.code ({ cls := "MountTableModel", name := "hidden", desc := "()I" } : MethodName) prog_6_method_45_code (1 : Nat) (Option.some ClassFile.FieldType.int)) ∈ mt_T := mt_m4 193 rfl rfl
theorem mw_ml_X4_141 : (Cond.methodLink "MountTableModel" (141 : Nat) ({ cls := "MountTableModel", name := "bytesOfAll", desc := "()I" } : MethodName)) ∈ mt_T := mt_m4 194 rfl rfl
theorem mw_im_X4_bytesOfAll : (Cond.instanceMethod ({ cls := "MountTableModel", name := "bytesOfAll", desc := "()I" } : MethodName)) ∈ mt_T := mt_m4 196 rfl rfl
theorem mw_co_X4_bytesOfAll : (Cond.code ({ cls := "MountTableModel", name := "bytesOfAll", desc := "()I" } : MethodName) prog_6_method_43_code (1 : Nat) (Option.some ClassFile.FieldType.int)) ∈ mt_T := mt_m4 197 rfl rfl
theorem mw_ml_X4_145 : (Cond.methodLink "MountTableModel" (145 : Nat) ({ cls := "MountTableModel", name := "bytesShown", desc := "()I" } : MethodName)) ∈ mt_T := mt_m4 198 rfl rfl
theorem mw_im_X4_bytesShown : (Cond.instanceMethod ({ cls := "MountTableModel", name := "bytesShown", desc := "()I" } : MethodName)) ∈ mt_T := mt_m4 200 rfl rfl
theorem mw_co_X4_bytesShown : (Cond.code ({ cls := "MountTableModel", name := "bytesShown", desc := "()I" } : MethodName) prog_6_method_44_code (5 : Nat) (Option.some ClassFile.FieldType.int)) ∈ mt_T := mt_m4 201 rfl rfl
theorem mw_ml_L_178 : (Cond.methodLink "MountTableLaw" (178 : Nat) ({ cls := "MountTableModel", name := "copies", desc := "()I" } : MethodName)) ∈ mt_T := mt_m4 202 rfl rfl
theorem mw_im_X4_copies : (Cond.instanceMethod ({ cls := "MountTableModel", name := "copies", desc := "()I" } : MethodName)) ∈ mt_T := mt_m4 203 rfl rfl
theorem mw_se_X4_X4_copies : (Cond.selects "MountTableModel" ({ cls := "MountTableModel", name := "copies", desc := "()I" } : MethodName) ({ cls := "MountTableModel", name := "copies", desc := "()I" } : MethodName)) ∈ mt_T := mt_m4 204 rfl rfl
theorem mw_co_X4_copies : (Cond.code ({ cls := "MountTableModel", name := "copies", desc := "()I" } : MethodName) prog_6_method_46_code (1 : Nat) (Option.some ClassFile.FieldType.int)) ∈ mt_T := mt_m4 205 rfl rfl
theorem mw_ml_L_181 : (Cond.methodLink "MountTableLaw" (181 : Nat) ({ cls := "MountTableModel", name := "whiteouts", desc := "(I)I" } : MethodName)) ∈ mt_T := mt_m4 206 rfl rfl
theorem mw_im_X4_whiteouts : (Cond.instanceMethod ({ cls := "MountTableModel", name := "whiteouts", desc := "(I)I" } : MethodName)) ∈ mt_T := mt_m4 207 rfl rfl
theorem mw_se_X4_X4_whiteouts : (Cond.selects "MountTableModel" ({ cls := "MountTableModel", name := "whiteouts", desc := "(I)I" } : MethodName) ({ cls := "MountTableModel", name := "whiteouts", desc := "(I)I" } : MethodName)) ∈ mt_T := mt_m4 208 rfl rfl
theorem mw_co_X4_whiteouts : (Cond.code ({ cls := "MountTableModel", name := "whiteouts", desc := "(I)I" } : MethodName) prog_6_method_48_code (2 : Nat) (Option.some ClassFile.FieldType.int)) ∈ mt_T := mt_m4 209 rfl rfl
theorem mw_ml_X4_148 : (Cond.methodLink "MountTableModel" (148 : Nat) ({ cls := "MountTableModel", name := "count", desc := "(II)I" } : MethodName)) ∈ mt_T := mt_m4 210 rfl rfl
theorem mw_im_X4_count : (Cond.instanceMethod ({ cls := "MountTableModel", name := "count", desc := "(II)I" } : MethodName)) ∈ mt_T := mt_m4 212 rfl rfl
theorem mw_co_X4_count : (Cond.code ({ cls := "MountTableModel", name := "count", desc := "(II)I" } : MethodName) prog_6_method_47_code (5 : Nat) (Option.some ClassFile.FieldType.int)) ∈ mt_T := mt_m4 213 rfl rfl
theorem mw_ml_L_185 : (Cond.methodLink "MountTableLaw" (185 : Nat) ({ cls := "MountTableModel", name := "backUp", desc := "(Z)I" } : MethodName)) ∈ mt_T := mt_m4 214 rfl rfl
theorem mw_im_X4_backUp : (Cond.instanceMethod ({ cls := "MountTableModel", name := "backUp", desc := "(Z)I" } : MethodName)) ∈ mt_T := mt_m4 215 rfl rfl
theorem mw_se_X4_X4_backUp : (Cond.selects "MountTableModel" ({ cls := "MountTableModel", name := "backUp", desc := "(Z)I" } : MethodName) ({ cls := "MountTableModel", name := "backUp", desc := "(Z)I" } : MethodName)) ∈ mt_T := mt_m4 216 rfl rfl
theorem mw_co_X4_backUp : (Cond.code ({ cls := "MountTableModel", name := "backUp", desc := "(Z)I" } : MethodName) prog_6_method_50_code (3 : Nat) (Option.some ClassFile.FieldType.int)) ∈ mt_T := mt_m4 217 rfl rfl
theorem mw_ml_X4_154 : (Cond.methodLink "MountTableModel" (154 : Nat) ({ cls := "MountTableModel", name := "nowAt", desc := "(ZI)I" } : MethodName)) ∈ mt_T := mt_m4 218 rfl rfl
theorem mw_im_X4_nowAt : (Cond.instanceMethod ({ cls := "MountTableModel", name := "nowAt", desc := "(ZI)I" } : MethodName)) ∈ mt_T := mt_m4 220 rfl rfl
theorem mw_co_X4_nowAt : (Cond.code ({ cls := "MountTableModel", name := "nowAt", desc := "(ZI)I" } : MethodName) prog_6_method_49_code (4 : Nat) (Option.some ClassFile.FieldType.int)) ∈ mt_T := mt_m4 221 rfl rfl
theorem mw_ml_L_188 : (Cond.methodLink "MountTableLaw" (188 : Nat) ({ cls := "MountTableModel", name := "bytes", desc := "(I)I" } : MethodName)) ∈ mt_T := mt_m4 222 rfl rfl
theorem mw_im_X4_bytes : (Cond.instanceMethod ({ cls := "MountTableModel", name := "bytes", desc := "(I)I" } : MethodName)) ∈ mt_T := mt_m4 223 rfl rfl
theorem mw_se_X4_X4_bytes : (Cond.selects "MountTableModel" ({ cls := "MountTableModel", name := "bytes", desc := "(I)I" } : MethodName) ({ cls := "MountTableModel", name := "bytes", desc := "(I)I" } : MethodName)) ∈ mt_T := mt_m4 224 rfl rfl
theorem mw_co_X4_bytes : (Cond.code ({ cls := "MountTableModel", name := "bytes", desc := "(I)I" } : MethodName) prog_6_method_52_code (5 : Nat) (Option.some ClassFile.FieldType.int)) ∈ mt_T := mt_m4 225 rfl rfl
theorem mw_ml_X4_158 : (Cond.methodLink "MountTableModel" (158 : Nat) ({ cls := "MountTableModel", name := "isBackup", desc := "(I)Z" } : MethodName)) ∈ mt_T := mt_m4 226 rfl rfl
theorem mw_im_X4_isBackup : (Cond.instanceMethod ({ cls := "MountTableModel", name := "isBackup", desc := "(I)Z" } : MethodName)) ∈ mt_T := mt_m4 228 rfl rfl
theorem mw_co_X4_isBackup : (Cond.code ({ cls := "MountTableModel", name := "isBackup", desc := "(I)Z" } : MethodName) prog_6_method_51_code (2 : Nat) (Option.some ClassFile.FieldType.boolean)) ∈ mt_T := mt_m4 229 rfl rfl
theorem mw_ml_L_191 : (Cond.methodLink "MountTableLaw" (191 : Nat) ({ cls := "MountTableModel", name := "differences", desc := "(I)I" } : MethodName)) ∈ mt_T := mt_m4 230 rfl rfl
theorem mw_im_X4_differences : (Cond.instanceMethod ({ cls := "MountTableModel", name := "differences", desc := "(I)I" } : MethodName)) ∈ mt_T := mt_m4 231 rfl rfl
theorem mw_se_X4_X4_differences : (Cond.selects "MountTableModel" ({ cls := "MountTableModel", name := "differences", desc := "(I)I" } : MethodName) ({ cls := "MountTableModel", name := "differences", desc := "(I)I" } : MethodName)) ∈ mt_T := mt_m4 232 rfl rfl
theorem mw_co_X4_differences : (Cond.code ({ cls := "MountTableModel", name := "differences", desc := "(I)I" } : MethodName) prog_6_method_53_code (4 : Nat) (Option.some ClassFile.FieldType.int)) ∈ mt_T := mt_m4 233 rfl rfl
theorem mw_ml_L_195 : (Cond.methodLink "MountTableLaw" (195 : Nat) ({ cls := "MountTableModel", name := "shownShare", desc := "()F" } : MethodName)) ∈ mt_T := mt_m4 234 rfl rfl
theorem mw_im_X4_shownShare : (Cond.instanceMethod ({ cls := "MountTableModel", name := "shownShare", desc := "()F" } : MethodName)) ∈ mt_T := mt_m4 235 rfl rfl
theorem mw_se_X4_X4_shownShare : (Cond.selects "MountTableModel" ({ cls := "MountTableModel", name := "shownShare", desc := "()F" } : MethodName) ({ cls := "MountTableModel", name := "shownShare", desc := "()F" } : MethodName)) ∈ mt_T := mt_m4 236 rfl rfl
theorem mw_co_X4_shownShare : (Cond.code ({ cls := "MountTableModel", name := "shownShare", desc := "()F" } : MethodName) prog_6_method_54_code (2 : Nat) (Option.some ClassFile.FieldType.float)) ∈ mt_T := mt_m4 237 rfl rfl
theorem mw_ml_L_199 : (Cond.methodLink "MountTableLaw" (199 : Nat) ({ cls := "MountTableModel", name := "meanSize", desc := "(I)D" } : MethodName)) ∈ mt_T := mt_m4 238 rfl rfl
theorem mw_im_X4_meanSize : (Cond.instanceMethod ({ cls := "MountTableModel", name := "meanSize", desc := "(I)D" } : MethodName)) ∈ mt_T := mt_m4 239 rfl rfl
theorem mw_se_X4_X4_meanSize : (Cond.selects "MountTableModel" ({ cls := "MountTableModel", name := "meanSize", desc := "(I)D" } : MethodName) ({ cls := "MountTableModel", name := "meanSize", desc := "(I)D" } : MethodName)) ∈ mt_T := mt_m5 0 rfl rfl
theorem mw_co_X4_meanSize : (Cond.code ({ cls := "MountTableModel", name := "meanSize", desc := "(I)D" } : MethodName) prog_6_method_55_code (4 : Nat) (Option.some ClassFile.FieldType.double)) ∈ mt_T := mt_m5 1 rfl rfl
theorem mw_ac_long : (Cond.arrayClass ClassFile.FieldType.long) ∈ mt_T := mt_m5 2 rfl rfl
theorem mw_ac_double : (Cond.arrayClass ClassFile.FieldType.double) ∈ mt_T := mt_m5 3 rfl rfl
theorem mw_ca_Jx00060_java_lang_IndexOutOfBoundsException : (Cond.castable "java/lang/ArrayIndexOutOfBoundsException" "java/lang/IndexOutOfBoundsException") ∈ mt_bw := mt_b5 5 rfl rfl
theorem mw_ca_X3_java_lang_Object : (Cond.castable "MountTable" "java/lang/Object") ∈ mt_bw := mt_b5 6 rfl rfl
theorem mw_ca_X4_java_lang_Object : (Cond.castable "MountTableModel" "java/lang/Object") ∈ mt_bw := mt_b5 7 rfl rfl
theorem mw_ca_java_lang_IllegalStateException_java_lang_Object : (Cond.castable "java/lang/IllegalStateException" "java/lang/Object") ∈ mt_bw := mt_b5 8 rfl rfl
theorem mw_ca_X1_java_lang_Object : (Cond.castable "MountTable$Layer" "java/lang/Object") ∈ mt_bw := mt_b5 9 rfl rfl
theorem mw_ca_Jx00060_java_lang_Object : (Cond.castable "java/lang/ArrayIndexOutOfBoundsException" "java/lang/Object") ∈ mt_bw := mt_b5 10 rfl rfl
theorem mw_ca_java_lang_IllegalArgumentException_java_lang_Object : (Cond.castable "java/lang/IllegalArgumentException" "java/lang/Object") ∈ mt_bw := mt_b5 11 rfl rfl
theorem mw_ca_java_lang_IndexOutOfBoundsException_java_lang_Object : (Cond.castable "java/lang/IndexOutOfBoundsException" "java/lang/Object") ∈ mt_bw := mt_b5 12 rfl rfl
theorem mw_ca_java_lang_UnsupportedOperationException_java_lang_Object : (Cond.castable "java/lang/UnsupportedOperationException" "java/lang/Object") ∈ mt_bw := mt_b5 13 rfl rfl
theorem mw_ca_X2_java_lang_Object : (Cond.castable "MountTable$Mount" "java/lang/Object") ∈ mt_bw := mt_b5 14 rfl rfl
theorem mw_ca_java_util_NoSuchElementException_java_lang_Object : (Cond.castable "java/util/NoSuchElementException" "java/lang/Object") ∈ mt_bw := mt_b5 15 rfl rfl
theorem mw_ca_X0_java_lang_Object : (Cond.castable "MountTable$Backup" "java/lang/Object") ∈ mt_bw := mt_b5 16 rfl rfl
theorem mw_ca_java_lang_ArithmeticException_java_lang_Object : (Cond.castable "java/lang/ArithmeticException" "java/lang/Object") ∈ mt_bw := mt_b5 17 rfl rfl
theorem mw_ca_java_lang_Throwable_java_lang_Object : (Cond.castable "java/lang/Throwable" "java/lang/Object") ∈ mt_bw := mt_b5 18 rfl rfl
theorem mw_ca_J0_java_lang_Object : (Cond.castable "java/lang/String" "java/lang/Object") ∈ mt_bw := mt_b5 19 rfl rfl
theorem mw_se_X3_X3_mountThere : (Cond.selects "MountTable" ⟨"MountTable", "mountThere", "(I)LMountTable$Mount;"⟩ ⟨"MountTable", "mountThere", "(I)LMountTable$Mount;"⟩) ∈ mt_T := mt_ms 0 rfl rfl
theorem mw_se_X3_X3_serverAt : (Cond.selects "MountTable" ⟨"MountTable", "serverAt", "(I)I"⟩ ⟨"MountTable", "serverAt", "(I)I"⟩) ∈ mt_T := mt_ms 1 rfl rfl
theorem mw_se_X3_X3_allBytes : (Cond.selects "MountTable" ⟨"MountTable", "allBytes", "()I"⟩ ⟨"MountTable", "allBytes", "()I"⟩) ∈ mt_T := mt_ms 2 rfl rfl
theorem mw_se_X3_X3_usedBy : (Cond.selects "MountTable" ⟨"MountTable", "usedBy", "(I)I"⟩ ⟨"MountTable", "usedBy", "(I)I"⟩) ∈ mt_T := mt_ms 3 rfl rfl
theorem mw_se_X3_X3_shownBytes : (Cond.selects "MountTable" ⟨"MountTable", "shownBytes", "()I"⟩ ⟨"MountTable", "shownBytes", "()I"⟩) ∈ mt_T := mt_ms 4 rfl rfl
theorem mw_se_X3_X3_layerAt : (Cond.selects "MountTable" ⟨"MountTable", "layerAt", "(I)LMountTable$Layer;"⟩ ⟨"MountTable", "layerAt", "(I)LMountTable$Layer;"⟩) ∈ mt_T := mt_ms 5 rfl rfl
theorem mw_se_X3_X3_layerShown : (Cond.selects "MountTable" ⟨"MountTable", "layerShown", "(I)I"⟩ ⟨"MountTable", "layerShown", "(I)I"⟩) ∈ mt_T := mt_ms 6 rfl rfl
theorem mw_se_X3_X3_restAt : (Cond.selects "MountTable" ⟨"MountTable", "restAt", "(I)I"⟩ ⟨"MountTable", "restAt", "(I)I"⟩) ∈ mt_T := mt_ms 7 rfl rfl
theorem mw_se_X3_X3_layerShownBy : (Cond.selects "MountTable" ⟨"MountTable", "layerShownBy", "(LMountTable$Mount;I)I"⟩ ⟨"MountTable", "layerShownBy", "(LMountTable$Mount;I)I"⟩) ∈ mt_T := mt_ms 8 rfl rfl
theorem mw_se_X3_X3_kindIn : (Cond.selects "MountTable" ⟨"MountTable", "kindIn", "(II)I"⟩ ⟨"MountTable", "kindIn", "(II)I"⟩) ∈ mt_T := mt_ms 9 rfl rfl
theorem mw_se_java_lang_Throwable_java_lang_Throwable_fillInStackTrace_I_Ljava_lang_Throwable_ : (Cond.selects "java/lang/Throwable" ⟨"java/lang/Throwable", "fillInStackTrace", "(I)Ljava/lang/Throwable;"⟩ ⟨"java/lang/Throwable", "fillInStackTrace", "(I)Ljava/lang/Throwable;"⟩) ∈ mt_T := mt_ms 10 rfl rfl
theorem mw_se_X3_X3_isUpperOfSome : (Cond.selects "MountTable" ⟨"MountTable", "isUpperOfSome", "(I)Z"⟩ ⟨"MountTable", "isUpperOfSome", "(I)Z"⟩) ∈ mt_T := mt_ms 11 rfl rfl
theorem mw_se_X3_X3_isInSome : (Cond.selects "MountTable" ⟨"MountTable", "isInSome", "(I)Z"⟩ ⟨"MountTable", "isInSome", "(I)Z"⟩) ∈ mt_T := mt_ms 12 rfl rfl
theorem mw_se_X3_X3_serveAgain : (Cond.selects "MountTable" ⟨"MountTable", "serveAgain", "()V"⟩ ⟨"MountTable", "serveAgain", "()V"⟩) ∈ mt_T := mt_ms 13 rfl rfl
theorem mw_se_X3_X3_serveBehind : (Cond.selects "MountTable" ⟨"MountTable", "serveBehind", "(II)V"⟩ ⟨"MountTable", "serveBehind", "(II)V"⟩) ∈ mt_T := mt_ms 14 rfl rfl
theorem mw_se_X3_X3_checkedMount : (Cond.selects "MountTable" ⟨"MountTable", "checkedMount", "(I)LMountTable$Mount;"⟩ ⟨"MountTable", "checkedMount", "(I)LMountTable$Mount;"⟩) ∈ mt_T := mt_ms 15 rfl rfl
theorem mw_se_X3_X3_layerToWrite : (Cond.selects "MountTable" ⟨"MountTable", "layerToWrite", "(I)LMountTable$Layer;"⟩ ⟨"MountTable", "layerToWrite", "(I)LMountTable$Layer;"⟩) ∈ mt_T := mt_ms 16 rfl rfl
theorem mw_se_X3_X3_quotaOf : (Cond.selects "MountTable" ⟨"MountTable", "quotaOf", "(I)I"⟩ ⟨"MountTable", "quotaOf", "(I)I"⟩) ∈ mt_T := mt_ms 17 rfl rfl
theorem mw_se_X3_X3_putAt : (Cond.selects "MountTable" ⟨"MountTable", "putAt", "(ILMountTable$Layer;III)V"⟩ ⟨"MountTable", "putAt", "(ILMountTable$Layer;III)V"⟩) ∈ mt_T := mt_ms 18 rfl rfl
theorem mw_se_X3_X3_change : (Cond.selects "MountTable" ⟨"MountTable", "change", "(LMountTable$Layer;IIII)V"⟩ ⟨"MountTable", "change", "(LMountTable$Layer;IIII)V"⟩) ∈ mt_T := mt_ms 19 rfl rfl
theorem mw_se_X3_X3_use : (Cond.selects "MountTable" ⟨"MountTable", "use", "(II)V"⟩ ⟨"MountTable", "use", "(II)V"⟩) ∈ mt_T := mt_ms 20 rfl rfl
theorem mw_se_X3_X3_checkedShown : (Cond.selects "MountTable" ⟨"MountTable", "checkedShown", "(I)LMountTable$Layer;"⟩ ⟨"MountTable", "checkedShown", "(I)LMountTable$Layer;"⟩) ∈ mt_T := mt_ms 21 rfl rfl
theorem mw_se_X3_X3_endOfLinks : (Cond.selects "MountTable" ⟨"MountTable", "endOfLinks", "(I)I"⟩ ⟨"MountTable", "endOfLinks", "(I)I"⟩) ∈ mt_T := mt_ms 22 rfl rfl
theorem mw_se_X3_X3_mayLead : (Cond.selects "MountTable" ⟨"MountTable", "mayLead", "(II)Z"⟩ ⟨"MountTable", "mayLead", "(II)Z"⟩) ∈ mt_T := mt_ms 23 rfl rfl
theorem mw_se_X3_X3_shownFileSize : (Cond.selects "MountTable" ⟨"MountTable", "shownFileSize", "(I)I"⟩ ⟨"MountTable", "shownFileSize", "(I)I"⟩) ∈ mt_T := mt_ms 24 rfl rfl
theorem mw_se_X3_X3_fileSizeIn : (Cond.selects "MountTable" ⟨"MountTable", "fileSizeIn", "(II)I"⟩ ⟨"MountTable", "fileSizeIn", "(II)I"⟩) ∈ mt_T := mt_ms 25 rfl rfl
theorem mw_se_X3_X3_checkedLayer : (Cond.selects "MountTable" ⟨"MountTable", "checkedLayer", "(I)LMountTable$Layer;"⟩ ⟨"MountTable", "checkedLayer", "(I)LMountTable$Layer;"⟩) ∈ mt_T := mt_ms 26 rfl rfl
theorem mw_se_X3_X3_sizeNow : (Cond.selects "MountTable" ⟨"MountTable", "sizeNow", "(ZI)I"⟩ ⟨"MountTable", "sizeNow", "(ZI)I"⟩) ∈ mt_T := mt_ms 27 rfl rfl
theorem mw_se_X3_X3_checkedBackup : (Cond.selects "MountTable" ⟨"MountTable", "checkedBackup", "(I)LMountTable$Backup;"⟩ ⟨"MountTable", "checkedBackup", "(I)LMountTable$Backup;"⟩) ∈ mt_T := mt_ms 28 rfl rfl
theorem mw_se_X4_X4_isLayer : (Cond.selects "MountTableModel" ⟨"MountTableModel", "isLayer", "(I)Z"⟩ ⟨"MountTableModel", "isLayer", "(I)Z"⟩) ∈ mt_T := mt_ms 29 rfl rfl
theorem mw_se_X4_X4_isUpper : (Cond.selects "MountTableModel" ⟨"MountTableModel", "isUpper", "(I)Z"⟩ ⟨"MountTableModel", "isUpper", "(I)Z"⟩) ∈ mt_T := mt_ms 30 rfl rfl
theorem mw_se_X4_X4_isUsed : (Cond.selects "MountTableModel" ⟨"MountTableModel", "isUsed", "(I)Z"⟩ ⟨"MountTableModel", "isUsed", "(I)Z"⟩) ∈ mt_T := mt_ms 31 rfl rfl
theorem mw_se_X4_X4_isMount : (Cond.selects "MountTableModel" ⟨"MountTableModel", "isMount", "(I)Z"⟩ ⟨"MountTableModel", "isMount", "(I)Z"⟩) ∈ mt_T := mt_ms 32 rfl rfl
theorem mw_se_X4_X4_servedBy : (Cond.selects "MountTableModel" ⟨"MountTableModel", "servedBy", "(I)I"⟩ ⟨"MountTableModel", "servedBy", "(I)I"⟩) ∈ mt_T := mt_ms 33 rfl rfl
theorem mw_se_X4_X4_canWrite : (Cond.selects "MountTableModel" ⟨"MountTableModel", "canWrite", "(I)Z"⟩ ⟨"MountTableModel", "canWrite", "(I)Z"⟩) ∈ mt_T := mt_ms 34 rfl rfl
theorem mw_se_X4_X4_target : (Cond.selects "MountTableModel" ⟨"MountTableModel", "target", "(I)I"⟩ ⟨"MountTableModel", "target", "(I)I"⟩) ∈ mt_T := mt_ms 35 rfl rfl
theorem mw_se_X4_X4_used : (Cond.selects "MountTableModel" ⟨"MountTableModel", "used", "(II)I"⟩ ⟨"MountTableModel", "used", "(II)I"⟩) ∈ mt_T := mt_ms 36 rfl rfl
theorem mw_se_X4_X4_puts : (Cond.selects "MountTableModel" ⟨"MountTableModel", "puts", "(IIII)V"⟩ ⟨"MountTableModel", "puts", "(IIII)V"⟩) ∈ mt_T := mt_ms 37 rfl rfl
theorem mw_se_X4_X4_shown : (Cond.selects "MountTableModel" ⟨"MountTableModel", "shown", "(I)I"⟩ ⟨"MountTableModel", "shown", "(I)I"⟩) ∈ mt_T := mt_ms 38 rfl rfl
theorem mw_se_X4_X4_asks : (Cond.selects "MountTableModel" ⟨"MountTableModel", "asks", "(I)Z"⟩ ⟨"MountTableModel", "asks", "(I)Z"⟩) ∈ mt_T := mt_ms 39 rfl rfl
theorem mw_se_X4_X4_asksShown : (Cond.selects "MountTableModel" ⟨"MountTableModel", "asksShown", "(I)Z"⟩ ⟨"MountTableModel", "asksShown", "(I)Z"⟩) ∈ mt_T := mt_ms 40 rfl rfl
theorem mw_se_X4_X4_bytesOfAll : (Cond.selects "MountTableModel" ⟨"MountTableModel", "bytesOfAll", "()I"⟩ ⟨"MountTableModel", "bytesOfAll", "()I"⟩) ∈ mt_T := mt_ms 41 rfl rfl
theorem mw_se_X4_X4_bytesShown : (Cond.selects "MountTableModel" ⟨"MountTableModel", "bytesShown", "()I"⟩ ⟨"MountTableModel", "bytesShown", "()I"⟩) ∈ mt_T := mt_ms 42 rfl rfl
theorem mw_se_X4_X4_count : (Cond.selects "MountTableModel" ⟨"MountTableModel", "count", "(II)I"⟩ ⟨"MountTableModel", "count", "(II)I"⟩) ∈ mt_T := mt_ms 43 rfl rfl
theorem mw_se_X4_X4_nowAt : (Cond.selects "MountTableModel" ⟨"MountTableModel", "nowAt", "(ZI)I"⟩ ⟨"MountTableModel", "nowAt", "(ZI)I"⟩) ∈ mt_T := mt_ms 44 rfl rfl
theorem mw_se_X4_X4_isBackup : (Cond.selects "MountTableModel" ⟨"MountTableModel", "isBackup", "(I)Z"⟩ ⟨"MountTableModel", "isBackup", "(I)Z"⟩) ∈ mt_T := mt_ms 45 rfl rfl

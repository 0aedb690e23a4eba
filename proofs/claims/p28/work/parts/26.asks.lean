def c_X3_served (lc mc bc : Nat) (N G : Nat → Nat → Int32) (x : Int32) : String ⊕ Int32 := scase (c_X3_checkedPlace x) (fun E_2 => .inl E_2) (fun x_3 => if (c_X3_serverAt lc mc bc N G x_3) = (-1) then (.inl "java/util/NoSuchElementException") else (.inr (c_X3_serverAt lc mc bc N G x_3)))
set_option maxRecDepth 100000 in
set_option maxHeartbeats 4000000 in
theorem k_X3_served (l : Launch) (hlt : l.stackTraces = false) (g : mt_G) (z : Nat) (ad : Nat → Nat) (lc mc bc : Nat) (N G : Nat → Nat → Int32) (o : Nat → Int64) (d : mt_D) (h6 : lc ≤ 6) (h8 : mc ≤ 8) (hb6 : bc ≤ 6) (x : Int32)  : mt_K l g z yX3_served cX3_served 3 (some .int) 7 103 2 12 [.ref (ad (0)), .int x] (mt_wc g ad lc mc bc N G o d) ad (xr_i (c_X3_served lc mc bc N G x)) (mt_wc g ad lc mc bc N G o d) ad := by
  refine mt_ofW (by decide +kernel) (Nat.le_of_ble_eq_true rfl) ?_
  intro p e s m args below meth c S hr9 hk hnm hout hC hW hS ls hl
  have hr := hr9
  have hx := S.1
  have hb := S.2.1
  have hl : lv_has ls 3 [(0, .ref (ad (0))), (1, .int (x))] := hl
  refine lv_aload_n hx hb dX3_served_0 rfl (lv_at hl 0 rfl) ?_
  refine lv_iload_n hx hb dX3_served_1 rfl (lv_at hl 1 rfl) ?_
  rcases hq_1 : (c_X3_checkedPlace x) with E_2 | x_3
  · exact mt_cSt (As := [.int (x)]) (rest := [.ref (ad (0))]) S ps_X3_checkedPlace mw_ml_X3_104 (k_X3_checkedPlace l hlt g z ad lc mc bc N G o d h6 h8 hb6 x) hC hW hS rfl hl.1 rfl (Nat.le_of_ble_eq_true rfl) dX3_served_2 ⟨(Nat.le_of_ble_eq_true rfl), (Nat.le_of_ble_eq_true rfl)⟩ ⟨(Nat.le_of_ble_eq_true rfl), (Nat.le_of_ble_eq_true rfl)⟩ (congrArg (a₂ := .inl E_2) xr_i hq_1) hout hk (congrArg (a₂ := .inl E_2) xr_i (by rw [c_X3_served, scase_l hq_1])) rfl rfl (Nat.le_of_ble_eq_true rfl) (Nat.le_of_ble_eq_true rfl)
  · refine mt_cS1 (As := [.int (x)]) (rest := [.ref (ad (0))]) S ps_X3_checkedPlace mw_ml_X3_104 (k_X3_checkedPlace l hlt g z ad lc mc bc N G o d h6 h8 hb6 x) hC hW hS rfl hl.1 rfl (Nat.le_of_ble_eq_true rfl) dX3_served_2 ⟨(Nat.le_of_ble_eq_true rfl), (Nat.le_of_ble_eq_true rfl)⟩ ⟨(Nat.le_of_ble_eq_true rfl), (Nat.le_of_ble_eq_true rfl)⟩ (congrArg (a₂ := .inr x_3) xr_i hq_1) (fun H locs hW hS => ?_)
    refine mt_cV1 (As := [.int (x_3)]) (rest := []) S pv_X3_serverAt mw_ml_X3_113 (k_X3_serverAt l hlt g z ad lc mc bc N G o d h6 h8 hb6 x_3) hC hW hS wc_0 rfl rfl rfl hl.1 rfl (Nat.le_of_ble_eq_true rfl) dX3_served_5 ⟨(Nat.le_of_ble_eq_true rfl), (Nat.le_of_ble_eq_true rfl)⟩ ⟨(Nat.le_of_ble_eq_true rfl), (Nat.le_of_ble_eq_true rfl)⟩ rfl (fun H locs hW hS => ?_)
    refine lv_istore_n (lv' := [(2, .int (c_X3_serverAt lc mc bc N G x_3)), (0, .ref (ad (0))), (1, .int (x))]) hx hb dX3_served_8 rfl hl (by decide) rfl (fun ls hl => ?_)
    refine lv_iload_n hx hb dX3_served_9 rfl (lv_at hl 0 rfl) ?_
    refine lv_iconst (v := -1) hx hb dX3_served_10 (by decide) ?_
    refine lv_icmp_ne (tgt := 24) hx hb dX3_served_11 (by decide) (fun c_4 => ?_) (fun c_4 => ?_)
    · refine lv_iload_n hx hb dX3_served_24 rfl (lv_at hl 0 rfl) ?_
      exact mt_ri S hr hk hW hS (congrArg (a₂ := .inr (c_X3_serverAt lc mc bc N G x_3)) xr_i (by rw [c_X3_served, scase_r hq_1, if_neg c_4])) (Nat.le_of_ble_eq_true rfl) (Nat.le_of_ble_eq_true rfl) dX3_served_25
    · exact mt_throw S hlt mp_NSE (List.mem_of_getElem? (i := 7) rfl) hC hW hS hl.1 hout hk (congrArg (a₂ := .inl "java/util/NoSuchElementException") xr_i (by rw [c_X3_served, scase_r hq_1, if_pos c_4])) dX3_served_14 dX3_served_17 dX3_served_18 dX3_served_20 dX3_served_23 (Nat.le_of_ble_eq_true rfl) (Nat.le_of_ble_eq_true rfl) ⟨(Nat.le_of_ble_eq_true rfl), (Nat.le_of_ble_eq_true rfl)⟩ (Nat.le_of_ble_eq_true rfl) (Nat.le_of_ble_eq_true rfl)
def c_X3_layerOf (lc mc bc : Nat) (N G : Nat → Nat → Int32) (x : Int32) : String ⊕ Int32 := scase (c_X3_checkedPlace x) (fun E_2 => .inl E_2) (fun x_3 => if (c_X3_layerShown lc mc bc N G x_3) = (-1) then (.inl "java/util/NoSuchElementException") else (.inr (c_X3_layerShown lc mc bc N G x_3)))
set_option maxRecDepth 100000 in
set_option maxHeartbeats 4000000 in
theorem k_X3_layerOf (l : Launch) (hlt : l.stackTraces = false) (g : mt_G) (z : Nat) (ad : Nat → Nat) (lc mc bc : Nat) (N G : Nat → Nat → Int32) (o : Nat → Int64) (d : mt_D) (h6 : lc ≤ 6) (h8 : mc ≤ 8) (hb6 : bc ≤ 6) (x : Int32)  : mt_K l g z yX3_layerOf cX3_layerOf 3 (some .int) 7 103 2 12 [.ref (ad (0)), .int x] (mt_wc g ad lc mc bc N G o d) ad (xr_i (c_X3_layerOf lc mc bc N G x)) (mt_wc g ad lc mc bc N G o d) ad := by
  refine mt_ofW (by decide +kernel) (Nat.le_of_ble_eq_true rfl) ?_
  intro p e s m args below meth c S hr9 hk hnm hout hC hW hS ls hl
  have hr := hr9
  have hx := S.1
  have hb := S.2.1
  have hl : lv_has ls 3 [(0, .ref (ad (0))), (1, .int (x))] := hl
  refine lv_aload_n hx hb dX3_layerOf_0 rfl (lv_at hl 0 rfl) ?_
  refine lv_iload_n hx hb dX3_layerOf_1 rfl (lv_at hl 1 rfl) ?_
  rcases hq_1 : (c_X3_checkedPlace x) with E_2 | x_3
  · exact mt_cSt (As := [.int (x)]) (rest := [.ref (ad (0))]) S ps_X3_checkedPlace mw_ml_X3_104 (k_X3_checkedPlace l hlt g z ad lc mc bc N G o d h6 h8 hb6 x) hC hW hS rfl hl.1 rfl (Nat.le_of_ble_eq_true rfl) dX3_layerOf_2 ⟨(Nat.le_of_ble_eq_true rfl), (Nat.le_of_ble_eq_true rfl)⟩ ⟨(Nat.le_of_ble_eq_true rfl), (Nat.le_of_ble_eq_true rfl)⟩ (congrArg (a₂ := .inl E_2) xr_i hq_1) hout hk (congrArg (a₂ := .inl E_2) xr_i (by rw [c_X3_layerOf, scase_l hq_1])) rfl rfl (Nat.le_of_ble_eq_true rfl) (Nat.le_of_ble_eq_true rfl)
  · refine mt_cS1 (As := [.int (x)]) (rest := [.ref (ad (0))]) S ps_X3_checkedPlace mw_ml_X3_104 (k_X3_checkedPlace l hlt g z ad lc mc bc N G o d h6 h8 hb6 x) hC hW hS rfl hl.1 rfl (Nat.le_of_ble_eq_true rfl) dX3_layerOf_2 ⟨(Nat.le_of_ble_eq_true rfl), (Nat.le_of_ble_eq_true rfl)⟩ ⟨(Nat.le_of_ble_eq_true rfl), (Nat.le_of_ble_eq_true rfl)⟩ (congrArg (a₂ := .inr x_3) xr_i hq_1) (fun H locs hW hS => ?_)
    refine mt_cV1 (As := [.int (x_3)]) (rest := []) S pv_X3_layerShown mw_ml_X3_178 (k_X3_layerShown l hlt g z ad lc mc bc N G o d h6 h8 hb6 x_3) hC hW hS wc_0 rfl rfl rfl hl.1 rfl (Nat.le_of_ble_eq_true rfl) dX3_layerOf_5 ⟨(Nat.le_of_ble_eq_true rfl), (Nat.le_of_ble_eq_true rfl)⟩ ⟨(Nat.le_of_ble_eq_true rfl), (Nat.le_of_ble_eq_true rfl)⟩ rfl (fun H locs hW hS => ?_)
    refine lv_istore_n (lv' := [(2, .int (c_X3_layerShown lc mc bc N G x_3)), (0, .ref (ad (0))), (1, .int (x))]) hx hb dX3_layerOf_8 rfl hl (by decide) rfl (fun ls hl => ?_)
    refine lv_iload_n hx hb dX3_layerOf_9 rfl (lv_at hl 0 rfl) ?_
    refine lv_iconst (v := -1) hx hb dX3_layerOf_10 (by decide) ?_
    refine lv_icmp_ne (tgt := 24) hx hb dX3_layerOf_11 (by decide) (fun c_4 => ?_) (fun c_4 => ?_)
    · refine lv_iload_n hx hb dX3_layerOf_24 rfl (lv_at hl 0 rfl) ?_
      exact mt_ri S hr hk hW hS (congrArg (a₂ := .inr (c_X3_layerShown lc mc bc N G x_3)) xr_i (by rw [c_X3_layerOf, scase_r hq_1, if_neg c_4])) (Nat.le_of_ble_eq_true rfl) (Nat.le_of_ble_eq_true rfl) dX3_layerOf_25
    · exact mt_throw S hlt mp_NSE (List.mem_of_getElem? (i := 12) rfl) hC hW hS hl.1 hout hk (congrArg (a₂ := .inl "java/util/NoSuchElementException") xr_i (by rw [c_X3_layerOf, scase_r hq_1, if_pos c_4])) dX3_layerOf_14 dX3_layerOf_17 dX3_layerOf_18 dX3_layerOf_20 dX3_layerOf_23 (Nat.le_of_ble_eq_true rfl) (Nat.le_of_ble_eq_true rfl) ⟨(Nat.le_of_ble_eq_true rfl), (Nat.le_of_ble_eq_true rfl)⟩ (Nat.le_of_ble_eq_true rfl) (Nat.le_of_ble_eq_true rfl)
def c_X3_end (lc mc bc : Nat) (N G : Nat → Nat → Int32) (x : Int32) : String ⊕ Int32 := scase (c_X3_checkedPlace x) (fun E_2 => .inl E_2) (fun x_3 => scase (c_X3_endOfLinks lc mc bc N G x) (fun E_5 => .inl E_5) (fun x_6 => .inr x_6))
set_option maxRecDepth 100000 in
set_option maxHeartbeats 4000000 in
theorem k_X3_end (l : Launch) (hlt : l.stackTraces = false) (g : mt_G) (z : Nat) (ad : Nat → Nat) (lc mc bc : Nat) (N G : Nat → Nat → Int32) (o : Nat → Int64) (d : mt_D) (h6 : lc ≤ 6) (h8 : mc ≤ 8) (hb6 : bc ≤ 6) (x : Int32)  : mt_K l g z yX3_end cX3_end 2 (some .int) 7 114 2 12 [.ref (ad (0)), .int x] (mt_wc g ad lc mc bc N G o d) ad (xr_i (c_X3_end lc mc bc N G x)) (mt_wc g ad lc mc bc N G o d) ad := by
  refine mt_ofW (by decide +kernel) (Nat.le_of_ble_eq_true rfl) ?_
  intro p e s m args below meth c S hr9 hk hnm hout hC hW hS ls hl
  have hr := hr9
  have hx := S.1
  have hb := S.2.1
  have hl : lv_has ls 2 [(0, .ref (ad (0))), (1, .int (x))] := hl
  refine lv_iload_n hx hb dX3_end_0 rfl (lv_at hl 1 rfl) ?_
  rcases hq_1 : (c_X3_checkedPlace x) with E_2 | x_3
  · exact mt_cSt (As := [.int (x)]) (rest := []) S ps_X3_checkedPlace mw_ml_X3_104 (k_X3_checkedPlace l hlt g z ad lc mc bc N G o d h6 h8 hb6 x) hC hW hS rfl hl.1 rfl (Nat.le_of_ble_eq_true rfl) dX3_end_1 ⟨(Nat.le_of_ble_eq_true rfl), (Nat.le_of_ble_eq_true rfl)⟩ ⟨(Nat.le_of_ble_eq_true rfl), (Nat.le_of_ble_eq_true rfl)⟩ (congrArg (a₂ := .inl E_2) xr_i hq_1) hout hk (congrArg (a₂ := .inl E_2) xr_i (by rw [c_X3_end, scase_l hq_1])) rfl rfl (Nat.le_of_ble_eq_true rfl) (Nat.le_of_ble_eq_true rfl)
  · refine mt_cS1 (As := [.int (x)]) (rest := []) S ps_X3_checkedPlace mw_ml_X3_104 (k_X3_checkedPlace l hlt g z ad lc mc bc N G o d h6 h8 hb6 x) hC hW hS rfl hl.1 rfl (Nat.le_of_ble_eq_true rfl) dX3_end_1 ⟨(Nat.le_of_ble_eq_true rfl), (Nat.le_of_ble_eq_true rfl)⟩ ⟨(Nat.le_of_ble_eq_true rfl), (Nat.le_of_ble_eq_true rfl)⟩ (congrArg (a₂ := .inr x_3) xr_i hq_1) (fun H locs hW hS => ?_)
    refine lv_pop hx hb dX3_end_4 rfl ?_
    refine lv_aload_n hx hb dX3_end_5 rfl (lv_at hl 0 rfl) ?_
    refine lv_iload_n hx hb dX3_end_6 rfl (lv_at hl 1 rfl) ?_
    rcases hq_4 : (c_X3_endOfLinks lc mc bc N G x) with E_5 | x_6
    · exact mt_cVt (As := [.int (x)]) (rest := []) S pv_X3_endOfLinks mw_ml_X3_183 (k_X3_endOfLinks l hlt g z ad lc mc bc N G o d h6 h8 hb6 x) hC hW hS wc_0 rfl rfl rfl hl.1 rfl (Nat.le_of_ble_eq_true rfl) dX3_end_7 ⟨(Nat.le_of_ble_eq_true rfl), (Nat.le_of_ble_eq_true rfl)⟩ ⟨(Nat.le_of_ble_eq_true rfl), (Nat.le_of_ble_eq_true rfl)⟩ (congrArg (a₂ := .inl E_5) xr_i hq_4) hout hk (congrArg (a₂ := .inl E_5) xr_i (by rw [c_X3_end, scase_r hq_1, scase_l hq_4])) rfl rfl (Nat.le_of_ble_eq_true rfl) (Nat.le_of_ble_eq_true rfl)
    · refine mt_cV1 (As := [.int (x)]) (rest := []) S pv_X3_endOfLinks mw_ml_X3_183 (k_X3_endOfLinks l hlt g z ad lc mc bc N G o d h6 h8 hb6 x) hC hW hS wc_0 rfl rfl rfl hl.1 rfl (Nat.le_of_ble_eq_true rfl) dX3_end_7 ⟨(Nat.le_of_ble_eq_true rfl), (Nat.le_of_ble_eq_true rfl)⟩ ⟨(Nat.le_of_ble_eq_true rfl), (Nat.le_of_ble_eq_true rfl)⟩ (congrArg (a₂ := .inr x_6) xr_i hq_4) (fun H locs hW hS => ?_)
      exact mt_ri S hr hk hW hS (congrArg (a₂ := .inr x_6) xr_i (by rw [c_X3_end, scase_r hq_1, scase_r hq_4])) (Nat.le_of_ble_eq_true rfl) (Nat.le_of_ble_eq_true rfl) dX3_end_10
def c_X3_size (lc mc bc : Nat) (N G : Nat → Nat → Int32) (x : Int32) : String ⊕ Int32 := scase (c_X3_checkedPlace x) (fun E_2 => .inl E_2) (fun x_3 => scase (c_X3_endOfLinks lc mc bc N G x) (fun E_5 => .inl E_5) (fun x_6 => if (c_X3_shownFileSize lc mc bc N G (c_X3_placeOf x_6)) = (-1) then (.inl "java/util/NoSuchElementException") else (.inr (c_X3_shownFileSize lc mc bc N G (c_X3_placeOf x_6)))))
set_option maxRecDepth 100000 in
set_option maxHeartbeats 4000000 in
theorem k_X3_size (l : Launch) (hlt : l.stackTraces = false) (g : mt_G) (z : Nat) (ad : Nat → Nat) (lc mc bc : Nat) (N G : Nat → Nat → Int32) (o : Nat → Int64) (d : mt_D) (h6 : lc ≤ 6) (h8 : mc ≤ 8) (hb6 : bc ≤ 6) (x : Int32)  : mt_K l g z yX3_size cX3_size 3 (some .int) 7 114 3 18 [.ref (ad (0)), .int x] (mt_wc g ad lc mc bc N G o d) ad (xr_i (c_X3_size lc mc bc N G x)) (mt_wc g ad lc mc bc N G o d) ad := by
  refine mt_ofW (by decide +kernel) (Nat.le_of_ble_eq_true rfl) ?_
  intro p e s m args below meth c S hr9 hk hnm hout hC hW hS ls hl
  have hr := hr9
  have hx := S.1
  have hb := S.2.1
  have hl : lv_has ls 3 [(0, .ref (ad (0))), (1, .int (x))] := hl
  refine lv_iload_n hx hb dX3_size_0 rfl (lv_at hl 1 rfl) ?_
  rcases hq_1 : (c_X3_checkedPlace x) with E_2 | x_3
  · exact mt_cSt (As := [.int (x)]) (rest := []) S ps_X3_checkedPlace mw_ml_X3_104 (k_X3_checkedPlace l hlt g z ad lc mc bc N G o d h6 h8 hb6 x) hC hW hS rfl hl.1 rfl (Nat.le_of_ble_eq_true rfl) dX3_size_1 ⟨(Nat.le_of_ble_eq_true rfl), (Nat.le_of_ble_eq_true rfl)⟩ ⟨(Nat.le_of_ble_eq_true rfl), (Nat.le_of_ble_eq_true rfl)⟩ (congrArg (a₂ := .inl E_2) xr_i hq_1) hout hk (congrArg (a₂ := .inl E_2) xr_i (by rw [c_X3_size, scase_l hq_1])) rfl rfl (Nat.le_of_ble_eq_true rfl) (Nat.le_of_ble_eq_true rfl)
  · refine mt_cS1 (As := [.int (x)]) (rest := []) S ps_X3_checkedPlace mw_ml_X3_104 (k_X3_checkedPlace l hlt g z ad lc mc bc N G o d h6 h8 hb6 x) hC hW hS rfl hl.1 rfl (Nat.le_of_ble_eq_true rfl) dX3_size_1 ⟨(Nat.le_of_ble_eq_true rfl), (Nat.le_of_ble_eq_true rfl)⟩ ⟨(Nat.le_of_ble_eq_true rfl), (Nat.le_of_ble_eq_true rfl)⟩ (congrArg (a₂ := .inr x_3) xr_i hq_1) (fun H locs hW hS => ?_)
    refine lv_pop hx hb dX3_size_4 rfl ?_
    refine lv_aload_n hx hb dX3_size_5 rfl (lv_at hl 0 rfl) ?_
    refine lv_aload_n hx hb dX3_size_6 rfl (lv_at hl 0 rfl) ?_
    refine lv_iload_n hx hb dX3_size_7 rfl (lv_at hl 1 rfl) ?_
    rcases hq_4 : (c_X3_endOfLinks lc mc bc N G x) with E_5 | x_6
    · exact mt_cVt (As := [.int (x)]) (rest := [.ref (ad (0))]) S pv_X3_endOfLinks mw_ml_X3_183 (k_X3_endOfLinks l hlt g z ad lc mc bc N G o d h6 h8 hb6 x) hC hW hS wc_0 rfl rfl rfl hl.1 rfl (Nat.le_of_ble_eq_true rfl) dX3_size_8 ⟨(Nat.le_of_ble_eq_true rfl), (Nat.le_of_ble_eq_true rfl)⟩ ⟨(Nat.le_of_ble_eq_true rfl), (Nat.le_of_ble_eq_true rfl)⟩ (congrArg (a₂ := .inl E_5) xr_i hq_4) hout hk (congrArg (a₂ := .inl E_5) xr_i (by rw [c_X3_size, scase_r hq_1, scase_l hq_4])) rfl rfl (Nat.le_of_ble_eq_true rfl) (Nat.le_of_ble_eq_true rfl)
    · refine mt_cV1 (As := [.int (x)]) (rest := [.ref (ad (0))]) S pv_X3_endOfLinks mw_ml_X3_183 (k_X3_endOfLinks l hlt g z ad lc mc bc N G o d h6 h8 hb6 x) hC hW hS wc_0 rfl rfl rfl hl.1 rfl (Nat.le_of_ble_eq_true rfl) dX3_size_8 ⟨(Nat.le_of_ble_eq_true rfl), (Nat.le_of_ble_eq_true rfl)⟩ ⟨(Nat.le_of_ble_eq_true rfl), (Nat.le_of_ble_eq_true rfl)⟩ (congrArg (a₂ := .inr x_6) xr_i hq_4) (fun H locs hW hS => ?_)
      refine mt_cS1 (As := [.int (x_6)]) (rest := [.ref (ad (0))]) S ps_X3_placeOf mw_ml_X3_52 (k_X3_placeOf l hlt g z ad lc mc bc N G o d h6 h8 hb6 x_6) hC hW hS rfl hl.1 rfl (Nat.le_of_ble_eq_true rfl) dX3_size_11 ⟨(Nat.le_of_ble_eq_true rfl), (Nat.le_of_ble_eq_true rfl)⟩ ⟨(Nat.le_of_ble_eq_true rfl), (Nat.le_of_ble_eq_true rfl)⟩ rfl (fun H locs hW hS => ?_)
      refine mt_cV1 (As := [.int (c_X3_placeOf x_6)]) (rest := []) S pv_X3_shownFileSize mw_ml_X3_186 (k_X3_shownFileSize l hlt g z ad lc mc bc N G o d h6 h8 hb6 (c_X3_placeOf x_6)) hC hW hS wc_0 rfl rfl rfl hl.1 rfl (Nat.le_of_ble_eq_true rfl) dX3_size_14 ⟨(Nat.le_of_ble_eq_true rfl), (Nat.le_of_ble_eq_true rfl)⟩ ⟨(Nat.le_of_ble_eq_true rfl), (Nat.le_of_ble_eq_true rfl)⟩ rfl (fun H locs hW hS => ?_)
      refine lv_istore_n (lv' := [(2, .int (c_X3_shownFileSize lc mc bc N G (c_X3_placeOf x_6))), (0, .ref (ad (0))), (1, .int (x))]) hx hb dX3_size_17 rfl hl (by decide) rfl (fun ls hl => ?_)
      refine lv_iload_n hx hb dX3_size_18 rfl (lv_at hl 0 rfl) ?_
      refine lv_iconst (v := -1) hx hb dX3_size_19 (by decide) ?_
      refine lv_icmp_ne (tgt := 33) hx hb dX3_size_20 (by decide) (fun c_7 => ?_) (fun c_7 => ?_)
      · refine lv_iload_n hx hb dX3_size_33 rfl (lv_at hl 0 rfl) ?_
        exact mt_ri S hr hk hW hS (congrArg (a₂ := .inr (c_X3_shownFileSize lc mc bc N G (c_X3_placeOf x_6))) xr_i (by rw [c_X3_size, scase_r hq_1, scase_r hq_4, if_neg c_7])) (Nat.le_of_ble_eq_true rfl) (Nat.le_of_ble_eq_true rfl) dX3_size_34
      · exact mt_throw S hlt mp_NSE (List.mem_of_getElem? (i := 15) rfl) hC hW hS hl.1 hout hk (congrArg (a₂ := .inl "java/util/NoSuchElementException") xr_i (by rw [c_X3_size, scase_r hq_1, scase_r hq_4, if_pos c_7])) dX3_size_23 dX3_size_26 dX3_size_27 dX3_size_29 dX3_size_32 (Nat.le_of_ble_eq_true rfl) (Nat.le_of_ble_eq_true rfl) ⟨(Nat.le_of_ble_eq_true rfl), (Nat.le_of_ble_eq_true rfl)⟩ (Nat.le_of_ble_eq_true rfl) (Nat.le_of_ble_eq_true rfl)
def c_X3_ownerOf (lc mc bc : Nat) (N G : Nat → Nat → Int32) (x : Int32) : String ⊕ Int32 := scase (c_X3_checkedPlace x) (fun E_2 => .inl E_2) (fun x_3 => scase (c_X3_checkedShown lc mc bc N G x_3) (fun E_5 => .inl E_5) (fun x_6 => .inr (c_X1_ownerAt lc mc bc N G x_6 (c_X3_restAt lc mc bc N G x_3))))
set_option maxRecDepth 100000 in
set_option maxHeartbeats 4000000 in
theorem k_X3_ownerOf (l : Launch) (hlt : l.stackTraces = false) (g : mt_G) (z : Nat) (ad : Nat → Nat) (lc mc bc : Nat) (N G : Nat → Nat → Int32) (o : Nat → Int64) (d : mt_D) (h6 : lc ≤ 6) (h8 : mc ≤ 8) (hb6 : bc ≤ 6) (x : Int32)  : mt_K l g z yX3_ownerOf cX3_ownerOf 3 (some .int) 7 110 2 12 [.ref (ad (0)), .int x] (mt_wc g ad lc mc bc N G o d) ad (xr_i (c_X3_ownerOf lc mc bc N G x)) (mt_wc g ad lc mc bc N G o d) ad := by
  refine mt_ofW (by decide +kernel) (Nat.le_of_ble_eq_true rfl) ?_
  intro p e s m args below meth c S hr9 hk hnm hout hC hW hS ls hl
  have hr := hr9
  have hx := S.1
  have hb := S.2.1
  have hl : lv_has ls 3 [(0, .ref (ad (0))), (1, .int (x))] := hl
  refine lv_iload_n hx hb dX3_ownerOf_0 rfl (lv_at hl 1 rfl) ?_
  rcases hq_1 : (c_X3_checkedPlace x) with E_2 | x_3
  · exact mt_cSt (As := [.int (x)]) (rest := []) S ps_X3_checkedPlace mw_ml_X3_104 (k_X3_checkedPlace l hlt g z ad lc mc bc N G o d h6 h8 hb6 x) hC hW hS rfl hl.1 rfl (Nat.le_of_ble_eq_true rfl) dX3_ownerOf_1 ⟨(Nat.le_of_ble_eq_true rfl), (Nat.le_of_ble_eq_true rfl)⟩ ⟨(Nat.le_of_ble_eq_true rfl), (Nat.le_of_ble_eq_true rfl)⟩ (congrArg (a₂ := .inl E_2) xr_i hq_1) hout hk (congrArg (a₂ := .inl E_2) xr_i (by rw [c_X3_ownerOf, scase_l hq_1])) rfl rfl (Nat.le_of_ble_eq_true rfl) (Nat.le_of_ble_eq_true rfl)
  · refine mt_cS1 (As := [.int (x)]) (rest := []) S ps_X3_checkedPlace mw_ml_X3_104 (k_X3_checkedPlace l hlt g z ad lc mc bc N G o d h6 h8 hb6 x) hC hW hS rfl hl.1 rfl (Nat.le_of_ble_eq_true rfl) dX3_ownerOf_1 ⟨(Nat.le_of_ble_eq_true rfl), (Nat.le_of_ble_eq_true rfl)⟩ ⟨(Nat.le_of_ble_eq_true rfl), (Nat.le_of_ble_eq_true rfl)⟩ (congrArg (a₂ := .inr x_3) xr_i hq_1) (fun H locs hW hS => ?_)
    refine lv_istore_n (lv' := [(2, .int (x_3)), (0, .ref (ad (0))), (1, .int (x))]) hx hb dX3_ownerOf_4 rfl hl (by decide) rfl (fun ls hl => ?_)
    refine lv_aload_n hx hb dX3_ownerOf_5 rfl (lv_at hl 1 rfl) ?_
    refine lv_iload_n hx hb dX3_ownerOf_6 rfl (lv_at hl 0 rfl) ?_
    rcases hq_4 : (c_X3_checkedShown lc mc bc N G x_3) with E_5 | x_6
    · exact mt_cVt (As := [.int (x_3)]) (rest := []) S pv_X3_checkedShown mw_ml_X3_152 (k_X3_checkedShown l hlt g z ad lc mc bc N G o d h6 h8 hb6 x_3) hC hW hS wc_0 rfl rfl rfl hl.1 rfl (Nat.le_of_ble_eq_true rfl) dX3_ownerOf_7 ⟨(Nat.le_of_ble_eq_true rfl), (Nat.le_of_ble_eq_true rfl)⟩ ⟨(Nat.le_of_ble_eq_true rfl), (Nat.le_of_ble_eq_true rfl)⟩ (congrArg (a₂ := .inl E_5) (xr_n ad 100) hq_4) hout hk (congrArg (a₂ := .inl E_5) xr_i (by rw [c_X3_ownerOf, scase_r hq_1, scase_l hq_4])) rfl rfl (Nat.le_of_ble_eq_true rfl) (Nat.le_of_ble_eq_true rfl)
    · refine mt_cV1 (As := [.int (x_3)]) (rest := []) S pv_X3_checkedShown mw_ml_X3_152 (k_X3_checkedShown l hlt g z ad lc mc bc N G o d h6 h8 hb6 x_3) hC hW hS wc_0 rfl rfl rfl hl.1 rfl (Nat.le_of_ble_eq_true rfl) dX3_ownerOf_7 ⟨(Nat.le_of_ble_eq_true rfl), (Nat.le_of_ble_eq_true rfl)⟩ ⟨(Nat.le_of_ble_eq_true rfl), (Nat.le_of_ble_eq_true rfl)⟩ (congrArg (a₂ := .inr x_6) (xr_n ad 100) hq_4) (fun H locs hW hS => ?_)
      have hi_x_6 := c_checkedShown_lt hq_4
      refine lv_aload_n hx hb dX3_ownerOf_10 rfl (lv_at hl 1 rfl) ?_
      refine lv_iload_n hx hb dX3_ownerOf_11 rfl (lv_at hl 0 rfl) ?_
      refine mt_cV1 (As := [.int (x_3)]) (rest := [.ref (ad (100 + x_6))]) S pv_X3_restAt mw_ml_X3_133 (k_X3_restAt l hlt g z ad lc mc bc N G o d h6 h8 hb6 x_3) hC hW hS wc_0 rfl rfl rfl hl.1 rfl (Nat.le_of_ble_eq_true rfl) dX3_ownerOf_12 ⟨(Nat.le_of_ble_eq_true rfl), (Nat.le_of_ble_eq_true rfl)⟩ ⟨(Nat.le_of_ble_eq_true rfl), (Nat.le_of_ble_eq_true rfl)⟩ rfl (fun H locs hW hS => ?_)
      refine mt_cV1 (As := [.int (c_X3_restAt lc mc bc N G x_3)]) (rest := []) S pv_X1_ownerAt mw_ml_X3_201 (k_X1_ownerAt l hlt g z ad lc mc bc N G o d h6 h8 hb6 x_6 (c_X3_restAt lc mc bc N G x_3) hi_x_6) hC hW hS (wc_lay h6 hi_x_6) rfl rfl rfl hl.1 rfl (Nat.le_of_ble_eq_true rfl) dX3_ownerOf_15 ⟨(Nat.le_of_ble_eq_true rfl), (Nat.le_of_ble_eq_true rfl)⟩ ⟨(Nat.le_of_ble_eq_true rfl), (Nat.le_of_ble_eq_true rfl)⟩ rfl (fun H locs hW hS => ?_)
      exact mt_ri S hr hk hW hS (congrArg (a₂ := .inr (c_X1_ownerAt lc mc bc N G x_6 (c_X3_restAt lc mc bc N G x_3))) xr_i (by rw [c_X3_ownerOf, scase_r hq_1, scase_r hq_4])) (Nat.le_of_ble_eq_true rfl) (Nat.le_of_ble_eq_true rfl) dX3_ownerOf_18
def c_X3_setQuota (lc mc bc : Nat) (N G : Nat → Nat → Int32) (x : Int32) (y : Int32) : String ⊕ Int32 := scase (c_X3_checkOwner x) (fun E_2 => .inl E_2) (fun _ => if y < 0 then (.inl "java/lang/IllegalArgumentException") else (if y ≤ 99999 then (if (c_X3_isOwner x) = 0 then (.inr (c_X3_quotaOf lc mc bc N G x)) else (.inr (c_X3_quotaOf lc mc bc N G x))) else (.inl "java/lang/IllegalArgumentException")))
def c_X3_setQuota_G (lc mc bc : Nat) (N G : Nat → Nat → Int32) (x : Int32) (y : Int32) : Nat → Nat → Int32 := scase (c_X3_checkOwner x) (fun E_2 => G) (fun _ => if y < 0 then G else (if y ≤ 99999 then (if (c_X3_isOwner x) = 0 then G else (mt_gu G 5 x.toNatClampNeg y)) else G))
set_option maxRecDepth 100000 in
set_option maxHeartbeats 4000000 in
theorem k_X3_setQuota (l : Launch) (hlt : l.stackTraces = false) (g : mt_G) (z : Nat) (ad : Nat → Nat) (lc mc bc : Nat) (N G : Nat → Nat → Int32) (o : Nat → Int64) (d : mt_D) (h6 : lc ≤ 6) (h8 : mc ≤ 8) (hb6 : bc ≤ 6) (x : Int32) (y : Int32)  : mt_K l g z yX3_setQuota cX3_setQuota 4 (some .int) 7 102 2 12 [.ref (ad (0)), .int x, .int y] (mt_wc g ad lc mc bc N G o d) ad (xr_i (c_X3_setQuota lc mc bc N G x y)) (mt_wc g ad lc mc bc N (c_X3_setQuota_G lc mc bc N G x y) o d) ad := by
  refine mt_ofW (by decide +kernel) (Nat.le_of_ble_eq_true rfl) ?_
  intro p e s m args below meth c S hr9 hk hnm hout hC hW hS ls hl
  have hr := hr9
  have hx := S.1
  have hb := S.2.1
  have hl : lv_has ls 4 [(0, .ref (ad (0))), (1, .int (x)), (2, .int (y))] := hl
  refine lv_iload_n hx hb dX3_setQuota_0 rfl (lv_at hl 1 rfl) ?_
  rcases hq_1 : (c_X3_checkOwner x) with E_2 | u_3
  · exact mt_cSt (As := [.int (x)]) (rest := []) S ps_X3_checkOwner mw_ml_X3_121 (k_X3_checkOwner l hlt g z ad lc mc bc N G o d h6 h8 hb6 x) hC hW hS rfl hl.1 rfl (Nat.le_of_ble_eq_true rfl) dX3_setQuota_1 ⟨(Nat.le_of_ble_eq_true rfl), (Nat.le_of_ble_eq_true rfl)⟩ ⟨(Nat.le_of_ble_eq_true rfl), (Nat.le_of_ble_eq_true rfl)⟩ (congrArg (a₂ := .inl E_2) xr_u hq_1) hout hk (congrArg (a₂ := .inl E_2) xr_i (by rw [c_X3_setQuota, scase_l hq_1])) (by rw [c_X3_setQuota_G, scase_l hq_1]) rfl (Nat.le_of_ble_eq_true rfl) (Nat.le_of_ble_eq_true rfl)
  · refine mt_cSv (As := [.int (x)]) (rest := []) S ps_X3_checkOwner mw_ml_X3_121 (k_X3_checkOwner l hlt g z ad lc mc bc N G o d h6 h8 hb6 x) hC hW hS rfl hl.1 rfl (Nat.le_of_ble_eq_true rfl) dX3_setQuota_1 ⟨(Nat.le_of_ble_eq_true rfl), (Nat.le_of_ble_eq_true rfl)⟩ ⟨(Nat.le_of_ble_eq_true rfl), (Nat.le_of_ble_eq_true rfl)⟩ (congrArg (a₂ := .inr ()) xr_u hq_1) (fun H locs hW hS => ?_)
    refine lv_iload_n hx hb dX3_setQuota_4 rfl (lv_at hl 2 rfl) ?_
    refine lv_if_lt (tgt := 14) hx hb dX3_setQuota_5 (by decide) (fun c_4 => ?_) (fun c_4 => ?_)
    · have hW := hW.to (w1 := mt_wc g ad lc mc bc N (c_X3_setQuota_G lc mc bc N G x y) o d) (by rw [c_X3_setQuota_G, scase_r hq_1, if_pos c_4])
      exact mt_throw S hlt mp_IAE (List.mem_of_getElem? (i := 16) rfl) hC hW hS hl.1 hout hk (congrArg (a₂ := .inl "java/lang/IllegalArgumentException") xr_i (by rw [c_X3_setQuota, scase_r hq_1, if_pos c_4])) dX3_setQuota_14 dX3_setQuota_17 dX3_setQuota_18 dX3_setQuota_20 dX3_setQuota_23 (Nat.le_of_ble_eq_true rfl) (Nat.le_of_ble_eq_true rfl) ⟨(Nat.le_of_ble_eq_true rfl), (Nat.le_of_ble_eq_true rfl)⟩ (Nat.le_of_ble_eq_true rfl) (Nat.le_of_ble_eq_true rfl)
    · refine lv_iload_n hx hb dX3_setQuota_8 rfl (lv_at hl 2 rfl) ?_
      refine lv_ldc hx hb S.2.2.2.1 (S.2.2.2.2 _ (List.mem_cons_of_mem _ mw_cn_X3_204)) dX3_setQuota_9 ?_
      refine lv_icmp_le (tgt := 24) hx hb dX3_setQuota_11 (by decide) (fun c_5 => ?_) (fun c_5 => ?_)
      · refine lv_aload_n hx hb dX3_setQuota_24 rfl (lv_at hl 0 rfl) ?_
        refine lv_iload_n hx hb dX3_setQuota_25 rfl (lv_at hl 1 rfl) ?_
        refine mt_cV1 (As := [.int (x)]) (rest := []) S pv_X3_quotaOf mw_ml_X3_140 (k_X3_quotaOf l hlt g z ad lc mc bc N G o d h6 h8 hb6 x) hC hW hS wc_0 rfl rfl rfl hl.1 rfl (Nat.le_of_ble_eq_true rfl) dX3_setQuota_26 ⟨(Nat.le_of_ble_eq_true rfl), (Nat.le_of_ble_eq_true rfl)⟩ ⟨(Nat.le_of_ble_eq_true rfl), (Nat.le_of_ble_eq_true rfl)⟩ rfl (fun H locs hW hS => ?_)
        refine lv_istore_n (lv' := [(3, .int (c_X3_quotaOf lc mc bc N G x)), (0, .ref (ad (0))), (1, .int (x)), (2, .int (y))]) hx hb dX3_setQuota_29 rfl hl (by decide) rfl (fun ls hl => ?_)
        refine lv_iload_n hx hb dX3_setQuota_30 rfl (lv_at hl 2 rfl) ?_
        refine mt_cS1 (As := [.int (x)]) (rest := []) S ps_X3_isOwner mw_ml_X3_207 (k_X3_isOwner l hlt g z ad lc mc bc N G o d h6 h8 hb6 x) hC hW hS rfl hl.1 rfl (Nat.le_of_ble_eq_true rfl) dX3_setQuota_31 ⟨(Nat.le_of_ble_eq_true rfl), (Nat.le_of_ble_eq_true rfl)⟩ ⟨(Nat.le_of_ble_eq_true rfl), (Nat.le_of_ble_eq_true rfl)⟩ rfl (fun H locs hW hS => ?_)
        refine lv_if_eq (tgt := 44) hx hb dX3_setQuota_34 (by decide) (fun c_6 => ?_) (fun c_6 => ?_)
        · refine lv_iload_n hx hb dX3_setQuota_44 rfl (lv_at hl 0 rfl) ?_
          have hW := hW.to (w1 := mt_wc g ad lc mc bc N (c_X3_setQuota_G lc mc bc N G x y) o d) (by rw [c_X3_setQuota_G, scase_r hq_1, if_neg c_4, if_pos c_5, if_pos c_6])
          exact mt_ri S hr hk hW hS (congrArg (a₂ := .inr (c_X3_quotaOf lc mc bc N G x)) xr_i (by rw [c_X3_setQuota, scase_r hq_1, if_neg c_4, if_pos c_5, if_pos c_6])) (Nat.le_of_ble_eq_true rfl) (Nat.le_of_ble_eq_true rfl) dX3_setQuota_45
        · refine lv_aload_n hx hb dX3_setQuota_37 rfl (lv_at hl 1 rfl) ?_
          refine mt_get S iw_X3 hC hW wc_0 rfl 4 (by decide) mw_fl_X3_31 rfl rfl dX3_setQuota_38 ?_
          refine lv_iload_n hx hb dX3_setQuota_41 rfl (lv_at hl 2 rfl) ?_
          refine lv_iload_n hx hb dX3_setQuota_42 rfl (lv_at hl 3 rfl) ?_
          refine wk_iast S hC hW hS ar_5 (c_isOwner_in c_6) dX3_setQuota_43 (fun H locs hW hS => ?_)
          refine lv_iload_n hx hb dX3_setQuota_44 rfl (lv_at hl 0 rfl) ?_
          have hW := hW.to (w1 := mt_wc g ad lc mc bc N (c_X3_setQuota_G lc mc bc N G x y) o d) (by rw [c_X3_setQuota_G, scase_r hq_1, if_neg c_4, if_pos c_5, if_neg c_6])
          exact mt_ri S hr hk hW hS (congrArg (a₂ := .inr (c_X3_quotaOf lc mc bc N G x)) xr_i (by rw [c_X3_setQuota, scase_r hq_1, if_neg c_4, if_pos c_5, if_neg c_6])) (Nat.le_of_ble_eq_true rfl) (Nat.le_of_ble_eq_true rfl) dX3_setQuota_45
      · have hW := hW.to (w1 := mt_wc g ad lc mc bc N (c_X3_setQuota_G lc mc bc N G x y) o d) (by rw [c_X3_setQuota_G, scase_r hq_1, if_neg c_4, if_neg c_5])
        exact mt_throw S hlt mp_IAE (List.mem_of_getElem? (i := 16) rfl) hC hW hS hl.1 hout hk (congrArg (a₂ := .inl "java/lang/IllegalArgumentException") xr_i (by rw [c_X3_setQuota, scase_r hq_1, if_neg c_4, if_neg c_5])) dX3_setQuota_14 dX3_setQuota_17 dX3_setQuota_18 dX3_setQuota_20 dX3_setQuota_23 (Nat.le_of_ble_eq_true rfl) (Nat.le_of_ble_eq_true rfl) ⟨(Nat.le_of_ble_eq_true rfl), (Nat.le_of_ble_eq_true rfl)⟩ (Nat.le_of_ble_eq_true rfl) (Nat.le_of_ble_eq_true rfl)
def c_X3_used (lc mc bc : Nat) (N G : Nat → Nat → Int32) (x : Int32) : String ⊕ Int32 := scase (c_X3_checkOwner x) (fun E_2 => .inl E_2) (fun _ => .inr (c_X3_usedBy lc mc bc N G x))
set_option maxRecDepth 100000 in
set_option maxHeartbeats 4000000 in
theorem k_X3_used (l : Launch) (hlt : l.stackTraces = false) (g : mt_G) (z : Nat) (ad : Nat → Nat) (lc mc bc : Nat) (N G : Nat → Nat → Int32) (o : Nat → Int64) (d : mt_D) (h6 : lc ≤ 6) (h8 : mc ≤ 8) (hb6 : bc ≤ 6) (x : Int32)  : mt_K l g z yX3_used cX3_used 2 (some .int) 7 102 1 6 [.ref (ad (0)), .int x] (mt_wc g ad lc mc bc N G o d) ad (xr_i (c_X3_used lc mc bc N G x)) (mt_wc g ad lc mc bc N G o d) ad := by
  refine mt_ofW (by decide +kernel) (Nat.le_of_ble_eq_true rfl) ?_
  intro p e s m args below meth c S hr9 hk hnm hout hC hW hS ls hl
  have hr := hr9
  have hx := S.1
  have hb := S.2.1
  have hl : lv_has ls 2 [(0, .ref (ad (0))), (1, .int (x))] := hl
  refine lv_iload_n hx hb dX3_used_0 rfl (lv_at hl 1 rfl) ?_
  rcases hq_1 : (c_X3_checkOwner x) with E_2 | u_3
  · exact mt_cSt (As := [.int (x)]) (rest := []) S ps_X3_checkOwner mw_ml_X3_121 (k_X3_checkOwner l hlt g z ad lc mc bc N G o d h6 h8 hb6 x) hC hW hS rfl hl.1 rfl (Nat.le_of_ble_eq_true rfl) dX3_used_1 ⟨(Nat.le_of_ble_eq_true rfl), (Nat.le_of_ble_eq_true rfl)⟩ ⟨(Nat.le_of_ble_eq_true rfl), (Nat.le_of_ble_eq_true rfl)⟩ (congrArg (a₂ := .inl E_2) xr_u hq_1) hout hk (congrArg (a₂ := .inl E_2) xr_i (by rw [c_X3_used, scase_l hq_1])) rfl rfl (Nat.le_of_ble_eq_true rfl) (Nat.le_of_ble_eq_true rfl)
  · refine mt_cSv (As := [.int (x)]) (rest := []) S ps_X3_checkOwner mw_ml_X3_121 (k_X3_checkOwner l hlt g z ad lc mc bc N G o d h6 h8 hb6 x) hC hW hS rfl hl.1 rfl (Nat.le_of_ble_eq_true rfl) dX3_used_1 ⟨(Nat.le_of_ble_eq_true rfl), (Nat.le_of_ble_eq_true rfl)⟩ ⟨(Nat.le_of_ble_eq_true rfl), (Nat.le_of_ble_eq_true rfl)⟩ (congrArg (a₂ := .inr ()) xr_u hq_1) (fun H locs hW hS => ?_)
    refine lv_aload_n hx hb dX3_used_4 rfl (lv_at hl 0 rfl) ?_
    refine lv_iload_n hx hb dX3_used_5 rfl (lv_at hl 1 rfl) ?_
    refine mt_cV1 (As := [.int (x)]) (rest := []) S pv_X3_usedBy mw_ml_X3_130 (k_X3_usedBy l hlt g z ad lc mc bc N G o d h6 h8 hb6 x) hC hW hS wc_0 rfl rfl rfl hl.1 rfl (Nat.le_of_ble_eq_true rfl) dX3_used_6 ⟨(Nat.le_of_ble_eq_true rfl), (Nat.le_of_ble_eq_true rfl)⟩ ⟨(Nat.le_of_ble_eq_true rfl), (Nat.le_of_ble_eq_true rfl)⟩ rfl (fun H locs hW hS => ?_)
    exact mt_ri S hr hk hW hS (congrArg (a₂ := .inr (c_X3_usedBy lc mc bc N G x)) xr_i (by rw [c_X3_used, scase_r hq_1])) (Nat.le_of_ble_eq_true rfl) (Nat.le_of_ble_eq_true rfl) dX3_used_9
def c_X3_usedByLayers_ln (lc mc bc : Nat) (N G : Nat → Nat → Int32) (x : Int32) : Nat → Int32
  | 0 => 0
  | k + 1 => ocase (c_X3_layerAt lc mc bc N G (nI k)) (c_X3_usedByLayers_ln lc mc bc N G x k) (fun i_7 => (c_X3_usedByLayers_ln lc mc bc N G x k) + (c_X1_bytesOfOwner lc mc bc N G i_7 x))
def c_X3_usedByLayers (lc mc bc : Nat) (N G : Nat → Nat → Int32) (x : Int32) : String ⊕ Int32 := scase (c_X3_checkOwner x) (fun E_2 => .inl E_2) (fun _ => .inr (c_X3_usedByLayers_ln lc mc bc N G x lc))
set_option maxRecDepth 100000 in
set_option maxHeartbeats 4000000 in
theorem k_X3_usedByLayers (l : Launch) (hlt : l.stackTraces = false) (g : mt_G) (z : Nat) (ad : Nat → Nat) (lc mc bc : Nat) (N G : Nat → Nat → Int32) (o : Nat → Int64) (d : mt_D) (h6 : lc ≤ 6) (h8 : mc ≤ 8) (hb6 : bc ≤ 6) (x : Int32)  : mt_K l g z yX3_usedByLayers cX3_usedByLayers 5 (some .int) 7 102 1 6 [.ref (ad (0)), .int x] (mt_wc g ad lc mc bc N G o d) ad (xr_i (c_X3_usedByLayers lc mc bc N G x)) (mt_wc g ad lc mc bc N G o d) ad := by
  refine mt_ofW (by decide +kernel) (Nat.le_of_ble_eq_true rfl) ?_
  intro p e s m args below meth c S hr9 hk hnm hout hC hW hS ls hl
  have hr := hr9
  have hx := S.1
  have hb := S.2.1
  have hl : lv_has ls 5 [(0, .ref (ad (0))), (1, .int (x))] := hl
  refine lv_iload_n hx hb dX3_usedByLayers_0 rfl (lv_at hl 1 rfl) ?_
  rcases hq_1 : (c_X3_checkOwner x) with E_2 | u_3
  · exact mt_cSt (As := [.int (x)]) (rest := []) S ps_X3_checkOwner mw_ml_X3_121 (k_X3_checkOwner l hlt g z ad lc mc bc N G o d h6 h8 hb6 x) hC hW hS rfl hl.1 rfl (Nat.le_of_ble_eq_true rfl) dX3_usedByLayers_1 ⟨(Nat.le_of_ble_eq_true rfl), (Nat.le_of_ble_eq_true rfl)⟩ ⟨(Nat.le_of_ble_eq_true rfl), (Nat.le_of_ble_eq_true rfl)⟩ (congrArg (a₂ := .inl E_2) xr_u hq_1) hout hk (congrArg (a₂ := .inl E_2) xr_i (by rw [c_X3_usedByLayers, scase_l hq_1])) rfl rfl (Nat.le_of_ble_eq_true rfl) (Nat.le_of_ble_eq_true rfl)
  · refine mt_cSv (As := [.int (x)]) (rest := []) S ps_X3_checkOwner mw_ml_X3_121 (k_X3_checkOwner l hlt g z ad lc mc bc N G o d h6 h8 hb6 x) hC hW hS rfl hl.1 rfl (Nat.le_of_ble_eq_true rfl) dX3_usedByLayers_1 ⟨(Nat.le_of_ble_eq_true rfl), (Nat.le_of_ble_eq_true rfl)⟩ ⟨(Nat.le_of_ble_eq_true rfl), (Nat.le_of_ble_eq_true rfl)⟩ (congrArg (a₂ := .inr ()) xr_u hq_1) (fun H locs hW hS => ?_)
    refine lv_iconst (v := 0) hx hb dX3_usedByLayers_4 (by decide) ?_
    refine lv_istore_n (lv' := [(2, .int (0)), (0, .ref (ad (0))), (1, .int (x))]) hx hb dX3_usedByLayers_5 rfl hl (by decide) rfl (fun ls hl => ?_)
    refine lv_iconst (v := 0) hx hb dX3_usedByLayers_6 (by decide) ?_
    refine lv_istore_n (lv' := [(3, .int (0)), (2, .int (0)), (0, .ref (ad (0))), (1, .int (x))]) hx hb dX3_usedByLayers_7 rfl hl (by decide) rfl (fun ls hl => ?_)
    have hl : lv_has ls 5 [(3, .int (nI 0)), (2, .int (c_X3_usedByLayers_ln lc mc bc N G x 0)), (0, .ref (ad (0))), (1, .int (x))] := lv_sub hl [0, 1, 2, 3] rfl
    refine lp_up lc (fun k => mt_wc g ad lc mc bc N G o d) (fun k => [(3, .int (nI k)), (2, .int (c_X3_usedByLayers_ln lc mc bc N G x k)), (0, .ref (ad (0))), (1, .int (x))]) (fun _ => True) 0 (by omega) trivial hW hS hl (fun H locs ls hP hW hS hl => ?_) (fun k H locs ls hk0 hkn hP hW hS hl ih => ?_)
    · have hW : mt_W g z (mt_wc g ad lc mc bc N G o d) ad _ := hW
      have hl : lv_has ls 5 [(3, .int (nI lc)), (2, .int (c_X3_usedByLayers_ln lc mc bc N G x lc)), (0, .ref (ad (0))), (1, .int (x))] := hl
      refine lv_iload_n hx hb dX3_usedByLayers_8 rfl (lv_at hl 0 rfl) ?_
      refine lv_aload_n hx hb dX3_usedByLayers_9 rfl (lv_at hl 2 rfl) ?_
      refine mt_get S iw_X3 hC hW wc_0 rfl 7 (by decide) mw_fl_X3_40 rfl rfl dX3_usedByLayers_10 ?_
      refine lv_icmp_ge (tgt := 43) hx hb dX3_usedByLayers_13 (by decide) (fun c_4 => ?_) (fun c_4 => absurd (nI_le (a := lc) (b := lc) (Nat.le_refl _) (by omega)) c_4)
      refine lv_iload_n hx hb dX3_usedByLayers_43 rfl (lv_at hl 1 rfl) ?_
      exact mt_ri S hr hk hW hS (congrArg (a₂ := .inr (c_X3_usedByLayers_ln lc mc bc N G x lc)) xr_i (by rw [c_X3_usedByLayers, scase_r hq_1])) (Nat.le_of_ble_eq_true rfl) (Nat.le_of_ble_eq_true rfl) dX3_usedByLayers_44
    · have hW : mt_W g z (mt_wc g ad lc mc bc N G o d) ad _ := hW
      have hl : lv_has ls 5 [(3, .int (nI k)), (2, .int (c_X3_usedByLayers_ln lc mc bc N G x k)), (0, .ref (ad (0))), (1, .int (x))] := hl
      refine lv_iload_n hx hb dX3_usedByLayers_8 rfl (lv_at hl 0 rfl) ?_
      refine lv_aload_n hx hb dX3_usedByLayers_9 rfl (lv_at hl 2 rfl) ?_
      refine mt_get S iw_X3 hC hW wc_0 rfl 7 (by decide) mw_fl_X3_40 rfl rfl dX3_usedByLayers_10 ?_
      refine lv_icmp_ge (tgt := 43) hx hb dX3_usedByLayers_13 (by decide) (fun c_5 => absurd c_5 (nI_ge (a := k) (b := lc) hkn (by omega))) (fun c_5 => ?_)
      refine lv_aload_n hx hb dX3_usedByLayers_16 rfl (lv_at hl 2 rfl) ?_
      refine lv_iload_n hx hb dX3_usedByLayers_17 rfl (lv_at hl 0 rfl) ?_
      rcases hq_6 : (c_X3_layerAt lc mc bc N G (nI k)) with _ | i_7
      · refine mt_cV1 (v := .null) (As := [.int (nI k)]) (rest := []) S pv_X3_layerAt mw_ml_X3_61 (k_X3_layerAt l hlt g z ad lc mc bc N G o d h6 h8 hb6 (nI k)) hC hW hS wc_0 rfl rfl rfl hl.1 rfl (Nat.le_of_ble_eq_true rfl) dX3_usedByLayers_18 ⟨(Nat.le_of_ble_eq_true rfl), (Nat.le_of_ble_eq_true rfl)⟩ ⟨(Nat.le_of_ble_eq_true rfl), (Nat.le_of_ble_eq_true rfl)⟩ (congrArg (a₂ := none) (xr_a ad 100) hq_6) (fun H locs hW hS => ?_)
        refine lv_astoreN (lv' := [(4, .null), (3, .int (nI k)), (2, .int (c_X3_usedByLayers_ln lc mc bc N G x k)), (0, .ref (ad (0))), (1, .int (x))]) hx hb dX3_usedByLayers_21 hl (by decide) rfl (fun ls hl => ?_)
        refine lv_aloadN hx hb dX3_usedByLayers_23 (lv_at hl 0 rfl) ?_
        refine lv_ifnullN (tgt := 37) hx hb dX3_usedByLayers_25 (by decide) ?_
        refine lv_iinc (v := nI (k + 1)) (lv' := [(3, .int (nI (k + 1))), (4, .null), (2, .int (c_X3_usedByLayers_ln lc mc bc N G x k)), (0, .ref (ad (0))), (1, .int (x))]) hx hb dX3_usedByLayers_37 hl (k := 1) rfl (nI_1 _) (by decide) rfl (fun ls hl => ?_)
        refine lv_goto (tgt := 8) hx hb dX3_usedByLayers_40 (by decide) ?_
        have hl : lv_has ls 5 [(3, .int (nI (k + 1))), (2, .int (c_X3_usedByLayers_ln lc mc bc N G x (k + 1))), (0, .ref (ad (0))), (1, .int (x))] := by rw [show c_X3_usedByLayers_ln lc mc bc N G x (k + 1) = c_X3_usedByLayers_ln lc mc bc N G x k from (by rw [c_X3_usedByLayers_ln, ocase_n hq_6])]; exact lv_sub hl [0, 2, 3, 4] rfl
        exact ih _ _ _ trivial hW hS hl
      · refine mt_cV1 (v := .ref (ad (100 + i_7))) (As := [.int (nI k)]) (rest := []) S pv_X3_layerAt mw_ml_X3_61 (k_X3_layerAt l hlt g z ad lc mc bc N G o d h6 h8 hb6 (nI k)) hC hW hS wc_0 rfl rfl rfl hl.1 rfl (Nat.le_of_ble_eq_true rfl) dX3_usedByLayers_18 ⟨(Nat.le_of_ble_eq_true rfl), (Nat.le_of_ble_eq_true rfl)⟩ ⟨(Nat.le_of_ble_eq_true rfl), (Nat.le_of_ble_eq_true rfl)⟩ (congrArg (a₂ := some i_7) (xr_a ad 100) hq_6) (fun H locs hW hS => ?_)
        have hi_i_7 := c_layerAt_lt hq_6
        refine lv_astore (lv' := [(4, .ref (ad (100 + i_7))), (3, .int (nI k)), (2, .int (c_X3_usedByLayers_ln lc mc bc N G x k)), (0, .ref (ad (0))), (1, .int (x))]) hx hb dX3_usedByLayers_21 hl (by decide) rfl (fun ls hl => ?_)
        refine lv_aload hx hb dX3_usedByLayers_23 (lv_at hl 0 rfl) ?_
        refine lv_ifnull hx hb dX3_usedByLayers_25 ?_
        refine lv_iload_n hx hb dX3_usedByLayers_28 rfl (lv_at hl 2 rfl) ?_
        refine lv_aload hx hb dX3_usedByLayers_29 (lv_at hl 0 rfl) ?_
        refine lv_iload_n hx hb dX3_usedByLayers_31 rfl (lv_at hl 4 rfl) ?_
        refine mt_cV1 (As := [.int (x)]) (rest := [.int (c_X3_usedByLayers_ln lc mc bc N G x k)]) S pv_X1_bytesOfOwner mw_ml_X3_210 (k_X1_bytesOfOwner l hlt g z ad lc mc bc N G o d h6 h8 hb6 i_7 x hi_i_7) hC hW hS (wc_lay h6 hi_i_7) rfl rfl rfl hl.1 rfl (Nat.le_of_ble_eq_true rfl) dX3_usedByLayers_32 ⟨(Nat.le_of_ble_eq_true rfl), (Nat.le_of_ble_eq_true rfl)⟩ ⟨(Nat.le_of_ble_eq_true rfl), (Nat.le_of_ble_eq_true rfl)⟩ rfl (fun H locs hW hS => ?_)
        refine lv_iadd hx hb dX3_usedByLayers_35 ?_
        refine lv_istore_n (lv' := [(2, .int ((c_X3_usedByLayers_ln lc mc bc N G x k) + (c_X1_bytesOfOwner lc mc bc N G i_7 x))), (4, .ref (ad (100 + i_7))), (3, .int (nI k)), (0, .ref (ad (0))), (1, .int (x))]) hx hb dX3_usedByLayers_36 rfl hl (by decide) rfl (fun ls hl => ?_)
        refine lv_iinc (v := nI (k + 1)) (lv' := [(3, .int (nI (k + 1))), (2, .int ((c_X3_usedByLayers_ln lc mc bc N G x k) + (c_X1_bytesOfOwner lc mc bc N G i_7 x))), (4, .ref (ad (100 + i_7))), (0, .ref (ad (0))), (1, .int (x))]) hx hb dX3_usedByLayers_37 hl (k := 2) rfl (nI_1 _) (by decide) rfl (fun ls hl => ?_)
        refine lv_goto (tgt := 8) hx hb dX3_usedByLayers_40 (by decide) ?_
        have hl : lv_has ls 5 [(3, .int (nI (k + 1))), (2, .int (c_X3_usedByLayers_ln lc mc bc N G x (k + 1))), (0, .ref (ad (0))), (1, .int (x))] := by rw [show c_X3_usedByLayers_ln lc mc bc N G x (k + 1) = (c_X3_usedByLayers_ln lc mc bc N G x k) + (c_X1_bytesOfOwner lc mc bc N G i_7 x) from (by rw [c_X3_usedByLayers_ln, ocase_s hq_6])]; exact lv_sub hl [0, 1, 3, 4] rfl
        exact ih _ _ _ trivial hW hS hl
def c_X3_hidden (lc mc bc : Nat) (N G : Nat → Nat → Int32)  : Int32 := (c_X3_allBytes lc mc bc N G) - (c_X3_shownBytes lc mc bc N G)
def c_X3_hidden_G (lc mc bc : Nat) (N G : Nat → Nat → Int32)  : Nat → Nat → Int32 := c_X3_shownBytes_G lc mc bc N G
set_option maxRecDepth 100000 in
set_option maxHeartbeats 4000000 in
theorem k_X3_hidden (l : Launch) (hlt : l.stackTraces = false) (g : mt_G) (z : Nat) (ad : Nat → Nat) (lc mc bc : Nat) (N G : Nat → Nat → Int32) (o : Nat → Int64) (d : mt_D) (h6 : lc ≤ 6) (h8 : mc ≤ 8) (hb6 : bc ≤ 6)   : mt_K l g z yX3_hidden cX3_hidden 1 (some .int) 5 111 0 0 [.ref (ad (0))] (mt_wc g ad lc mc bc N G o d) ad (.inr (some (.int (c_X3_hidden lc mc bc N G)))) (mt_wc g ad lc mc bc N (c_X3_hidden_G lc mc bc N G) o d) ad := by
  refine mt_ofW (by decide +kernel) (Nat.le_of_ble_eq_true rfl) ?_
  intro p e s m args below meth c S hr9 hk hnm hout hC hW hS ls hl
  have hr := hr9
  have hx := S.1
  have hb := S.2.1
  have hl : lv_has ls 1 [(0, .ref (ad (0)))] := hl
  refine lv_aload_n hx hb dX3_hidden_0 rfl (lv_at hl 0 rfl) ?_
  refine mt_cV1 (As := []) (rest := []) S pv_X3_allBytes mw_ml_X3_213 (k_X3_allBytes l hlt g z ad lc mc bc N G o d h6 h8 hb6 ) hC hW hS wc_0 rfl rfl rfl hl.1 rfl (Nat.le_of_ble_eq_true rfl) dX3_hidden_1 ⟨(Nat.le_of_ble_eq_true rfl), (Nat.le_of_ble_eq_true rfl)⟩ ⟨(Nat.le_of_ble_eq_true rfl), (Nat.le_of_ble_eq_true rfl)⟩ rfl (fun H locs hW hS => ?_)
  refine lv_aload_n hx hb dX3_hidden_4 rfl (lv_at hl 0 rfl) ?_
  refine mt_cV1 (As := []) (rest := [.int (c_X3_allBytes lc mc bc N G)]) S pv_X3_shownBytes mw_ml_X3_216 (k_X3_shownBytes l hlt g z ad lc mc bc N G o d h6 h8 hb6 ) hC hW hS wc_0 rfl rfl rfl hl.1 rfl (Nat.le_of_ble_eq_true rfl) dX3_hidden_5 ⟨(Nat.le_of_ble_eq_true rfl), (Nat.le_of_ble_eq_true rfl)⟩ ⟨(Nat.le_of_ble_eq_true rfl), (Nat.le_of_ble_eq_true rfl)⟩ rfl (fun H locs hW hS => ?_)
  refine lv_isub hx hb dX3_hidden_8 ?_
  have hW := hW.to (w1 := mt_wc g ad lc mc bc N (c_X3_hidden_G lc mc bc N G) o d) (by rw [c_X3_hidden_G])
  exact mt_ri S hr hk hW hS (by rw [c_X3_hidden]) (Nat.le_of_ble_eq_true rfl) (Nat.le_of_ble_eq_true rfl) dX3_hidden_9
def c_X3_copies (lc mc bc : Nat) (N G : Nat → Nat → Int32)  : Int32 := N 0 10
set_option maxRecDepth 100000 in
set_option maxHeartbeats 4000000 in
theorem k_X3_copies (l : Launch) (hlt : l.stackTraces = false) (g : mt_G) (z : Nat) (ad : Nat → Nat) (lc mc bc : Nat) (N G : Nat → Nat → Int32) (o : Nat → Int64) (d : mt_D) (h6 : lc ≤ 6) (h8 : mc ≤ 8) (hb6 : bc ≤ 6)   : mt_K l g z yX3_copies cX3_copies 1 (some .int) 0 0 0 0 [.ref (ad (0))] (mt_wc g ad lc mc bc N G o d) ad (.inr (some (.int (c_X3_copies lc mc bc N G)))) (mt_wc g ad lc mc bc N G o d) ad := by
  refine mt_ofW (by decide +kernel) (Nat.le_of_ble_eq_true rfl) ?_
  intro p e s m args below meth c S hr9 hk hnm hout hC hW hS ls hl
  have hr := hr9
  have hx := S.1
  have hb := S.2.1
  have hl : lv_has ls 1 [(0, .ref (ad (0)))] := hl
  refine lv_aload_n hx hb dX3_copies_0 rfl (lv_at hl 0 rfl) ?_
  refine mt_get S iw_X3 hC hW wc_0 rfl 10 (by decide) mw_fl_X3_219 rfl rfl dX3_copies_1 ?_
  exact mt_ri S hr hk hW hS (by rw [c_X3_copies]) (Nat.le_of_ble_eq_true rfl) (Nat.le_of_ble_eq_true rfl) dX3_copies_4
def c_X3_whiteouts (lc mc bc : Nat) (N G : Nat → Nat → Int32) (x : Int32) : String ⊕ Int32 := scase (c_X3_checkedLayer lc mc bc N G x) (fun E_2 => .inl E_2) (fun x_3 => .inr (c_X1_countOf lc mc bc N G x_3 3))
set_option maxRecDepth 100000 in
set_option maxHeartbeats 4000000 in
theorem k_X3_whiteouts (l : Launch) (hlt : l.stackTraces = false) (g : mt_G) (z : Nat) (ad : Nat → Nat) (lc mc bc : Nat) (N G : Nat → Nat → Int32) (o : Nat → Int64) (d : mt_D) (h6 : lc ≤ 6) (h8 : mc ≤ 8) (hb6 : bc ≤ 6) (x : Int32)  : mt_K l g z yX3_whiteouts cX3_whiteouts 2 (some .int) 7 104 1 6 [.ref (ad (0)), .int x] (mt_wc g ad lc mc bc N G o d) ad (xr_i (c_X3_whiteouts lc mc bc N G x)) (mt_wc g ad lc mc bc N G o d) ad := by
  refine mt_ofW (by decide +kernel) (Nat.le_of_ble_eq_true rfl) ?_
  intro p e s m args below meth c S hr9 hk hnm hout hC hW hS ls hl
  have hr := hr9
  have hx := S.1
  have hb := S.2.1
  have hl : lv_has ls 2 [(0, .ref (ad (0))), (1, .int (x))] := hl
  refine lv_aload_n hx hb dX3_whiteouts_0 rfl (lv_at hl 0 rfl) ?_
  refine lv_iload_n hx hb dX3_whiteouts_1 rfl (lv_at hl 1 rfl) ?_
  rcases hq_1 : (c_X3_checkedLayer lc mc bc N G x) with E_2 | x_3
  · exact mt_cVt (As := [.int (x)]) (rest := []) S pv_X3_checkedLayer mw_ml_X3_222 (k_X3_checkedLayer l hlt g z ad lc mc bc N G o d h6 h8 hb6 x) hC hW hS wc_0 rfl rfl rfl hl.1 rfl (Nat.le_of_ble_eq_true rfl) dX3_whiteouts_2 ⟨(Nat.le_of_ble_eq_true rfl), (Nat.le_of_ble_eq_true rfl)⟩ ⟨(Nat.le_of_ble_eq_true rfl), (Nat.le_of_ble_eq_true rfl)⟩ (congrArg (a₂ := .inl E_2) (xr_n ad 100) hq_1) hout hk (congrArg (a₂ := .inl E_2) xr_i (by rw [c_X3_whiteouts, scase_l hq_1])) rfl rfl (Nat.le_of_ble_eq_true rfl) (Nat.le_of_ble_eq_true rfl)
  · refine mt_cV1 (As := [.int (x)]) (rest := []) S pv_X3_checkedLayer mw_ml_X3_222 (k_X3_checkedLayer l hlt g z ad lc mc bc N G o d h6 h8 hb6 x) hC hW hS wc_0 rfl rfl rfl hl.1 rfl (Nat.le_of_ble_eq_true rfl) dX3_whiteouts_2 ⟨(Nat.le_of_ble_eq_true rfl), (Nat.le_of_ble_eq_true rfl)⟩ ⟨(Nat.le_of_ble_eq_true rfl), (Nat.le_of_ble_eq_true rfl)⟩ (congrArg (a₂ := .inr x_3) (xr_n ad 100) hq_1) (fun H locs hW hS => ?_)
    have hi_x_3 := c_checkedLayer_lt hq_1
    refine lv_iconst (v := 3) hx hb dX3_whiteouts_5 (by decide) ?_
    refine mt_cV1 (As := [.int (3)]) (rest := []) S pv_X1_countOf mw_ml_X3_149 (k_X1_countOf l hlt g z ad lc mc bc N G o d h6 h8 hb6 x_3 3 hi_x_3) hC hW hS (wc_lay h6 hi_x_3) rfl rfl rfl hl.1 rfl (Nat.le_of_ble_eq_true rfl) dX3_whiteouts_6 ⟨(Nat.le_of_ble_eq_true rfl), (Nat.le_of_ble_eq_true rfl)⟩ ⟨(Nat.le_of_ble_eq_true rfl), (Nat.le_of_ble_eq_true rfl)⟩ rfl (fun H locs hW hS => ?_)
    exact mt_ri S hr hk hW hS (congrArg (a₂ := .inr (c_X1_countOf lc mc bc N G x_3 3)) xr_i (by rw [c_X3_whiteouts, scase_r hq_1])) (Nat.le_of_ble_eq_true rfl) (Nat.le_of_ble_eq_true rfl) dX3_whiteouts_9

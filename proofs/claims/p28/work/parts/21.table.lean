def c_X3_usedBy (lc mc bc : Nat) (N G : Nat → Nat → Int32) (x : Int32) : Int32 := if (c_X3_isOwner x) = 0 then 0 else (G 4 x.toNatClampNeg)
set_option maxRecDepth 100000 in
set_option maxHeartbeats 4000000 in
theorem k_X3_usedBy (l : Launch) (hlt : l.stackTraces = false) (g : mt_G) (z : Nat) (ad : Nat → Nat) (lc mc bc : Nat) (N G : Nat → Nat → Int32) (o : Nat → Int64) (d : mt_D) (h6 : lc ≤ 6) (h8 : mc ≤ 8) (hb6 : bc ≤ 6) (x : Int32)  : mt_K l g z yX3_usedBy cX3_usedBy 2 (some .int) 1 20 0 0 [.ref (ad (0)), .int x] (mt_wc g ad lc mc bc N G o d) ad (.inr (some (.int (c_X3_usedBy lc mc bc N G x)))) (mt_wc g ad lc mc bc N G o d) ad := by
  refine mt_ofW (by decide +kernel) (Nat.le_of_ble_eq_true rfl) ?_
  intro p e s m args below meth c S hr9 hk hnm hout hC hW hS ls hl
  have hr := hr9
  have hx := S.1
  have hb := S.2.1
  have hl : lv_has ls 2 [(0, .ref (ad (0))), (1, .int (x))] := hl
  refine lv_iload_n hx hb dX3_usedBy_0 rfl (lv_at hl 1 rfl) ?_
  refine mt_cS1 (As := [.int (x)]) (rest := []) S ps_X3_isOwner mw_ml_X3_207 (k_X3_isOwner l hlt g z ad lc mc bc N G o d h6 h8 hb6 x) hC hW hS rfl hl.1 rfl (Nat.le_of_ble_eq_true rfl) dX3_usedBy_1 ⟨(Nat.le_of_ble_eq_true rfl), (Nat.le_of_ble_eq_true rfl)⟩ ⟨(Nat.le_of_ble_eq_true rfl), (Nat.le_of_ble_eq_true rfl)⟩ rfl (fun H locs hW hS => ?_)
  refine lv_if_eq (tgt := 16) hx hb dX3_usedBy_4 (by decide) (fun c_1 => ?_) (fun c_1 => ?_)
  · refine lv_iconst (v := 0) hx hb dX3_usedBy_16 (by decide) ?_
    exact mt_ri S hr hk hW hS (by rw [c_X3_usedBy, if_pos c_1]) (Nat.le_of_ble_eq_true rfl) (Nat.le_of_ble_eq_true rfl) dX3_usedBy_17
  · refine lv_aload_n hx hb dX3_usedBy_7 rfl (lv_at hl 0 rfl) ?_
    refine mt_get S iw_X3 hC hW wc_0 rfl 3 (by decide) mw_fl_X3_27 rfl rfl dX3_usedBy_8 ?_
    refine lv_iload_n hx hb dX3_usedBy_11 rfl (lv_at hl 1 rfl) ?_
    refine wk_iald S hC hW ar_4 (c_isOwner_in c_1) dX3_usedBy_12 ?_
    refine lv_goto (tgt := 17) hx hb dX3_usedBy_13 (by decide) ?_
    exact mt_ri S hr hk hW hS (by rw [c_X3_usedBy, if_neg c_1]) (Nat.le_of_ble_eq_true rfl) (Nat.le_of_ble_eq_true rfl) dX3_usedBy_17
def c_X3_quotaOf (lc mc bc : Nat) (N G : Nat → Nat → Int32) (x : Int32) : Int32 := if (c_X3_isOwner x) = 0 then 0 else (G 5 x.toNatClampNeg)
set_option maxRecDepth 100000 in
set_option maxHeartbeats 4000000 in
theorem k_X3_quotaOf (l : Launch) (hlt : l.stackTraces = false) (g : mt_G) (z : Nat) (ad : Nat → Nat) (lc mc bc : Nat) (N G : Nat → Nat → Int32) (o : Nat → Int64) (d : mt_D) (h6 : lc ≤ 6) (h8 : mc ≤ 8) (hb6 : bc ≤ 6) (x : Int32)  : mt_K l g z yX3_quotaOf cX3_quotaOf 2 (some .int) 1 20 0 0 [.ref (ad (0)), .int x] (mt_wc g ad lc mc bc N G o d) ad (.inr (some (.int (c_X3_quotaOf lc mc bc N G x)))) (mt_wc g ad lc mc bc N G o d) ad := by
  refine mt_ofW (by decide +kernel) (Nat.le_of_ble_eq_true rfl) ?_
  intro p e s m args below meth c S hr9 hk hnm hout hC hW hS ls hl
  have hr := hr9
  have hx := S.1
  have hb := S.2.1
  have hl : lv_has ls 2 [(0, .ref (ad (0))), (1, .int (x))] := hl
  refine lv_iload_n hx hb dX3_quotaOf_0 rfl (lv_at hl 1 rfl) ?_
  refine mt_cS1 (As := [.int (x)]) (rest := []) S ps_X3_isOwner mw_ml_X3_207 (k_X3_isOwner l hlt g z ad lc mc bc N G o d h6 h8 hb6 x) hC hW hS rfl hl.1 rfl (Nat.le_of_ble_eq_true rfl) dX3_quotaOf_1 ⟨(Nat.le_of_ble_eq_true rfl), (Nat.le_of_ble_eq_true rfl)⟩ ⟨(Nat.le_of_ble_eq_true rfl), (Nat.le_of_ble_eq_true rfl)⟩ rfl (fun H locs hW hS => ?_)
  refine lv_if_eq (tgt := 16) hx hb dX3_quotaOf_4 (by decide) (fun c_1 => ?_) (fun c_1 => ?_)
  · refine lv_iconst (v := 0) hx hb dX3_quotaOf_16 (by decide) ?_
    exact mt_ri S hr hk hW hS (by rw [c_X3_quotaOf, if_pos c_1]) (Nat.le_of_ble_eq_true rfl) (Nat.le_of_ble_eq_true rfl) dX3_quotaOf_17
  · refine lv_aload_n hx hb dX3_quotaOf_7 rfl (lv_at hl 0 rfl) ?_
    refine mt_get S iw_X3 hC hW wc_0 rfl 4 (by decide) mw_fl_X3_31 rfl rfl dX3_quotaOf_8 ?_
    refine lv_iload_n hx hb dX3_quotaOf_11 rfl (lv_at hl 1 rfl) ?_
    refine wk_iald S hC hW ar_5 (c_isOwner_in c_1) dX3_quotaOf_12 ?_
    refine lv_goto (tgt := 17) hx hb dX3_quotaOf_13 (by decide) ?_
    exact mt_ri S hr hk hW hS (by rw [c_X3_quotaOf, if_neg c_1]) (Nat.le_of_ble_eq_true rfl) (Nat.le_of_ble_eq_true rfl) dX3_quotaOf_17
def c_X3_use_G (lc mc bc : Nat) (N G : Nat → Nat → Int32) (x : Int32) (v : Int32) : Nat → Nat → Int32 := if (c_X3_isOwner x) = 0 then G else (mt_gu G 4 x.toNatClampNeg ((G 4 x.toNatClampNeg) + v))
set_option maxRecDepth 100000 in
set_option maxHeartbeats 4000000 in
theorem k_X3_use (l : Launch) (hlt : l.stackTraces = false) (g : mt_G) (z : Nat) (ad : Nat → Nat) (lc mc bc : Nat) (N G : Nat → Nat → Int32) (o : Nat → Int64) (d : mt_D) (h6 : lc ≤ 6) (h8 : mc ≤ 8) (hb6 : bc ≤ 6) (x : Int32) (v : Int32)  : mt_K l g z yX3_use cX3_use 3 none 1 20 0 0 [.ref (ad (0)), .int x, .int v] (mt_wc g ad lc mc bc N G o d) ad (.inr none) (mt_wc g ad lc mc bc N (c_X3_use_G lc mc bc N G x v) o d) ad := by
  refine mt_ofW (by decide +kernel) (Nat.le_of_ble_eq_true rfl) ?_
  intro p e s m args below meth c S hr9 hk hnm hout hC hW hS ls hl
  have hr := hr9
  have hx := S.1
  have hb := S.2.1
  have hl : lv_has ls 3 [(0, .ref (ad (0))), (1, .int (x)), (2, .int (v))] := hl
  refine lv_iload_n hx hb dX3_use_0 rfl (lv_at hl 1 rfl) ?_
  refine mt_cS1 (As := [.int (x)]) (rest := []) S ps_X3_isOwner mw_ml_X3_207 (k_X3_isOwner l hlt g z ad lc mc bc N G o d h6 h8 hb6 x) hC hW hS rfl hl.1 rfl (Nat.le_of_ble_eq_true rfl) dX3_use_1 ⟨(Nat.le_of_ble_eq_true rfl), (Nat.le_of_ble_eq_true rfl)⟩ ⟨(Nat.le_of_ble_eq_true rfl), (Nat.le_of_ble_eq_true rfl)⟩ rfl (fun H locs hW hS => ?_)
  refine lv_if_eq (tgt := 17) hx hb dX3_use_4 (by decide) (fun c_1 => ?_) (fun c_1 => ?_)
  · have hW := hW.to (w1 := mt_wc g ad lc mc bc N (c_X3_use_G lc mc bc N G x v) o d) (by rw [c_X3_use_G, if_pos c_1])
    exact mt_rv S hr hk hW hS rfl (Nat.le_of_ble_eq_true rfl) (Nat.le_of_ble_eq_true rfl) dX3_use_17
  · refine lv_aload_n hx hb dX3_use_7 rfl (lv_at hl 0 rfl) ?_
    refine mt_get S iw_X3 hC hW wc_0 rfl 3 (by decide) mw_fl_X3_27 rfl rfl dX3_use_8 ?_
    refine lv_iload_n hx hb dX3_use_11 rfl (lv_at hl 1 rfl) ?_
    refine lv_dup2_11 hx hb dX3_use_12 rfl rfl ?_
    refine wk_iald S hC hW ar_4 (c_isOwner_in c_1) dX3_use_13 ?_
    refine lv_iload_n hx hb dX3_use_14 rfl (lv_at hl 2 rfl) ?_
    refine lv_iadd hx hb dX3_use_15 ?_
    refine wk_iast S hC hW hS ar_4 (c_isOwner_in c_1) dX3_use_16 (fun H locs hW hS => ?_)
    have hW := hW.to (w1 := mt_wc g ad lc mc bc N (c_X3_use_G lc mc bc N G x v) o d) (by rw [c_X3_use_G, if_neg c_1])
    exact mt_rv S hr hk hW hS rfl (Nat.le_of_ble_eq_true rfl) (Nat.le_of_ble_eq_true rfl) dX3_use_17
def c_X3_serverAt (lc mc bc : Nat) (N G : Nat → Nat → Int32) (x : Int32) : Int32 := if (c_X3_isPlace x) = 0 then (-1) else (G 6 x.toNatClampNeg)
set_option maxRecDepth 100000 in
set_option maxHeartbeats 4000000 in
theorem k_X3_serverAt (l : Launch) (hlt : l.stackTraces = false) (g : mt_G) (z : Nat) (ad : Nat → Nat) (lc mc bc : Nat) (N G : Nat → Nat → Int32) (o : Nat → Int64) (d : mt_D) (h6 : lc ≤ 6) (h8 : mc ≤ 8) (hb6 : bc ≤ 6) (x : Int32)  : mt_K l g z yX3_serverAt cX3_serverAt 2 (some .int) 1 20 0 0 [.ref (ad (0)), .int x] (mt_wc g ad lc mc bc N G o d) ad (.inr (some (.int (c_X3_serverAt lc mc bc N G x)))) (mt_wc g ad lc mc bc N G o d) ad := by
  refine mt_ofW (by decide +kernel) (Nat.le_of_ble_eq_true rfl) ?_
  intro p e s m args below meth c S hr9 hk hnm hout hC hW hS ls hl
  have hr := hr9
  have hx := S.1
  have hb := S.2.1
  have hl : lv_has ls 2 [(0, .ref (ad (0))), (1, .int (x))] := hl
  refine lv_iload_n hx hb dX3_serverAt_0 rfl (lv_at hl 1 rfl) ?_
  refine mt_cS1 (As := [.int (x)]) (rest := []) S ps_X3_isPlace mw_ml_X3_272 (k_X3_isPlace l hlt g z ad lc mc bc N G o d h6 h8 hb6 x) hC hW hS rfl hl.1 rfl (Nat.le_of_ble_eq_true rfl) dX3_serverAt_1 ⟨(Nat.le_of_ble_eq_true rfl), (Nat.le_of_ble_eq_true rfl)⟩ ⟨(Nat.le_of_ble_eq_true rfl), (Nat.le_of_ble_eq_true rfl)⟩ rfl (fun H locs hW hS => ?_)
  refine lv_if_eq (tgt := 16) hx hb dX3_serverAt_4 (by decide) (fun c_1 => ?_) (fun c_1 => ?_)
  · refine lv_iconst (v := -1) hx hb dX3_serverAt_16 (by decide) ?_
    exact mt_ri S hr hk hW hS (by rw [c_X3_serverAt, if_pos c_1]) (Nat.le_of_ble_eq_true rfl) (Nat.le_of_ble_eq_true rfl) dX3_serverAt_17
  · refine lv_aload_n hx hb dX3_serverAt_7 rfl (lv_at hl 0 rfl) ?_
    refine mt_get S iw_X3 hC hW wc_0 rfl 5 (by decide) mw_fl_X3_34 rfl rfl dX3_serverAt_8 ?_
    refine lv_iload_n hx hb dX3_serverAt_11 rfl (lv_at hl 1 rfl) ?_
    refine wk_iald S hC hW ar_6 (c_isPlace_in c_1) dX3_serverAt_12 ?_
    refine lv_goto (tgt := 17) hx hb dX3_serverAt_13 (by decide) ?_
    exact mt_ri S hr hk hW hS (by rw [c_X3_serverAt, if_neg c_1]) (Nat.le_of_ble_eq_true rfl) (Nat.le_of_ble_eq_true rfl) dX3_serverAt_17
def c_X3_restAt (lc mc bc : Nat) (N G : Nat → Nat → Int32) (x : Int32) : Int32 := if (c_X3_isPlace x) = 0 then 0 else (G 7 x.toNatClampNeg)
set_option maxRecDepth 100000 in
set_option maxHeartbeats 4000000 in
theorem k_X3_restAt (l : Launch) (hlt : l.stackTraces = false) (g : mt_G) (z : Nat) (ad : Nat → Nat) (lc mc bc : Nat) (N G : Nat → Nat → Int32) (o : Nat → Int64) (d : mt_D) (h6 : lc ≤ 6) (h8 : mc ≤ 8) (hb6 : bc ≤ 6) (x : Int32)  : mt_K l g z yX3_restAt cX3_restAt 2 (some .int) 1 20 0 0 [.ref (ad (0)), .int x] (mt_wc g ad lc mc bc N G o d) ad (.inr (some (.int (c_X3_restAt lc mc bc N G x)))) (mt_wc g ad lc mc bc N G o d) ad := by
  refine mt_ofW (by decide +kernel) (Nat.le_of_ble_eq_true rfl) ?_
  intro p e s m args below meth c S hr9 hk hnm hout hC hW hS ls hl
  have hr := hr9
  have hx := S.1
  have hb := S.2.1
  have hl : lv_has ls 2 [(0, .ref (ad (0))), (1, .int (x))] := hl
  refine lv_iload_n hx hb dX3_restAt_0 rfl (lv_at hl 1 rfl) ?_
  refine mt_cS1 (As := [.int (x)]) (rest := []) S ps_X3_isPlace mw_ml_X3_272 (k_X3_isPlace l hlt g z ad lc mc bc N G o d h6 h8 hb6 x) hC hW hS rfl hl.1 rfl (Nat.le_of_ble_eq_true rfl) dX3_restAt_1 ⟨(Nat.le_of_ble_eq_true rfl), (Nat.le_of_ble_eq_true rfl)⟩ ⟨(Nat.le_of_ble_eq_true rfl), (Nat.le_of_ble_eq_true rfl)⟩ rfl (fun H locs hW hS => ?_)
  refine lv_if_eq (tgt := 16) hx hb dX3_restAt_4 (by decide) (fun c_1 => ?_) (fun c_1 => ?_)
  · refine lv_iconst (v := 0) hx hb dX3_restAt_16 (by decide) ?_
    exact mt_ri S hr hk hW hS (by rw [c_X3_restAt, if_pos c_1]) (Nat.le_of_ble_eq_true rfl) (Nat.le_of_ble_eq_true rfl) dX3_restAt_17
  · refine lv_aload_n hx hb dX3_restAt_7 rfl (lv_at hl 0 rfl) ?_
    refine mt_get S iw_X3 hC hW wc_0 rfl 6 (by decide) mw_fl_X3_37 rfl rfl dX3_restAt_8 ?_
    refine lv_iload_n hx hb dX3_restAt_11 rfl (lv_at hl 1 rfl) ?_
    refine wk_iald S hC hW ar_7 (c_isPlace_in c_1) dX3_restAt_12 ?_
    refine lv_goto (tgt := 17) hx hb dX3_restAt_13 (by decide) ?_
    exact mt_ri S hr hk hW hS (by rw [c_X3_restAt, if_neg c_1]) (Nat.le_of_ble_eq_true rfl) (Nat.le_of_ble_eq_true rfl) dX3_restAt_17
def c_X3_layerAt (lc mc bc : Nat) (N G : Nat → Nat → Int32) (x : Int32) : Option Nat := if x < 0 then none else (if 6 ≤ x then none else (if x.toNatClampNeg < lc then (some x.toNatClampNeg) else none))
set_option maxRecDepth 100000 in
set_option maxHeartbeats 4000000 in
theorem k_X3_layerAt (l : Launch) (hlt : l.stackTraces = false) (g : mt_G) (z : Nat) (ad : Nat → Nat) (lc mc bc : Nat) (N G : Nat → Nat → Int32) (o : Nat → Int64) (d : mt_D) (h6 : lc ≤ 6) (h8 : mc ≤ 8) (hb6 : bc ≤ 6) (x : Int32)  : mt_K l g z yX3_layerAt cX3_layerAt 2 (some (.object "MountTable$Layer")) 0 0 0 0 [.ref (ad (0)), .int x] (mt_wc g ad lc mc bc N G o d) ad (xr_a ad 100 (c_X3_layerAt lc mc bc N G x)) (mt_wc g ad lc mc bc N G o d) ad := by
  refine mt_ofW (by decide +kernel) (Nat.le_of_ble_eq_true rfl) ?_
  intro p e s m args below meth c S hr9 hk hnm hout hC hW hS ls hl
  have hr := hr9
  have hx := S.1
  have hb := S.2.1
  have hl : lv_has ls 2 [(0, .ref (ad (0))), (1, .int (x))] := hl
  refine lv_iload_n hx hb dX3_layerAt_0 rfl (lv_at hl 1 rfl) ?_
  refine lv_if_lt (tgt := 22) hx hb dX3_layerAt_1 (by decide) (fun c_1 => ?_) (fun c_1 => ?_)
  · refine lv_null hx hb dX3_layerAt_22 ?_
    exact mt_ra S hr hk (Or.inl rfl) hW hS (congrArg (a₂ := none) (xr_a ad 100) (by rw [c_X3_layerAt, if_pos c_1])) (Nat.le_of_ble_eq_true rfl) (Nat.le_of_ble_eq_true rfl) dX3_layerAt_23
  · refine lv_iload_n hx hb dX3_layerAt_4 rfl (lv_at hl 1 rfl) ?_
    refine lv_aload_n hx hb dX3_layerAt_5 rfl (lv_at hl 0 rfl) ?_
    refine mt_get S iw_X3 hC hW wc_0 rfl 0 (by decide) mw_fl_X3_11 rfl rfl dX3_layerAt_6 ?_
    refine mt_alen S hC hW 2 rfl wc_1 (v := 6) rfl dX3_layerAt_9 ?_
    refine lv_icmp_ge (tgt := 22) hx hb dX3_layerAt_10 (by decide) (fun c_2 => ?_) (fun c_2 => ?_)
    · refine lv_null hx hb dX3_layerAt_22 ?_
      exact mt_ra S hr hk (Or.inl rfl) hW hS (congrArg (a₂ := none) (xr_a ad 100) (by rw [c_X3_layerAt, if_neg c_1, if_pos c_2])) (Nat.le_of_ble_eq_true rfl) (Nat.le_of_ble_eq_true rfl) dX3_layerAt_23
    · refine lv_aload_n hx hb dX3_layerAt_13 rfl (lv_at hl 0 rfl) ?_
      refine mt_get S iw_X3 hC hW wc_0 rfl 0 (by decide) mw_fl_X3_11 rfl rfl dX3_layerAt_14 ?_
      refine lv_iload_n hx hb dX3_layerAt_17 rfl (lv_at hl 1 rfl) ?_
      refine wk_aald S hC hW 2 rfl wc_1 (vin (n := 6) c_1 c_2) dX3_layerAt_18 (fun hm_3 => ?_) (fun hm_3 => ?_)
      · refine lv_goto (tgt := 23) hx hb dX3_layerAt_19 (by decide) ?_
        exact mt_ra S hr hk (Or.inr ⟨_, rfl⟩) hW hS (congrArg (a₂ := (some x.toNatClampNeg)) (xr_a ad 100) (by rw [c_X3_layerAt, if_neg c_1, if_neg c_2, if_pos hm_3])) (Nat.le_of_ble_eq_true rfl) (Nat.le_of_ble_eq_true rfl) dX3_layerAt_23
      · refine lv_goto (tgt := 23) hx hb dX3_layerAt_19 (by decide) ?_
        exact mt_ra S hr hk (Or.inl rfl) hW hS (congrArg (a₂ := none) (xr_a ad 100) (by rw [c_X3_layerAt, if_neg c_1, if_neg c_2, if_neg hm_3])) (Nat.le_of_ble_eq_true rfl) (Nat.le_of_ble_eq_true rfl) dX3_layerAt_23
theorem c_layerAt_lt {lc mc bc : Nat} {N G : Nat → Nat → Int32} {x : Int32} {i : Nat} (h : c_X3_layerAt lc mc bc N G x = some i) : i < lc := by
  unfold c_X3_layerAt at h
  repeat' split at h
  all_goals first | (cases h; done) | (cases h; assumption)
def c_X3_mountThere (lc mc bc : Nat) (N G : Nat → Nat → Int32) (x : Int32) : Option Nat := if x < 0 then none else (if x < 8 then (if x.toNatClampNeg < mc then (if (N (150 + x.toNatClampNeg) 3) = 0 then none else (some x.toNatClampNeg)) else none) else none)
set_option maxRecDepth 100000 in
set_option maxHeartbeats 4000000 in
theorem k_X3_mountThere (l : Launch) (hlt : l.stackTraces = false) (g : mt_G) (z : Nat) (ad : Nat → Nat) (lc mc bc : Nat) (N G : Nat → Nat → Int32) (o : Nat → Int64) (d : mt_D) (h6 : lc ≤ 6) (h8 : mc ≤ 8) (hb6 : bc ≤ 6) (x : Int32)  : mt_K l g z yX3_mountThere cX3_mountThere 3 (some (.object "MountTable$Mount")) 0 0 0 0 [.ref (ad (0)), .int x] (mt_wc g ad lc mc bc N G o d) ad (xr_a ad 150 (c_X3_mountThere lc mc bc N G x)) (mt_wc g ad lc mc bc N G o d) ad := by
  refine mt_ofW (by decide +kernel) (Nat.le_of_ble_eq_true rfl) ?_
  intro p e s m args below meth c S hr9 hk hnm hout hC hW hS ls hl
  have hr := hr9
  have hx := S.1
  have hb := S.2.1
  have hl : lv_has ls 3 [(0, .ref (ad (0))), (1, .int (x))] := hl
  refine lv_iload_n hx hb dX3_mountThere_0 rfl (lv_at hl 1 rfl) ?_
  refine lv_if_lt (tgt := 13) hx hb dX3_mountThere_1 (by decide) (fun c_1 => ?_) (fun c_1 => ?_)
  · refine lv_null hx hb dX3_mountThere_13 ?_
    exact mt_ra S hr hk (Or.inl rfl) hW hS (congrArg (a₂ := none) (xr_a ad 150) (by rw [c_X3_mountThere, if_pos c_1])) (Nat.le_of_ble_eq_true rfl) (Nat.le_of_ble_eq_true rfl) dX3_mountThere_14
  · refine lv_iload_n hx hb dX3_mountThere_4 rfl (lv_at hl 1 rfl) ?_
    refine lv_aload_n hx hb dX3_mountThere_5 rfl (lv_at hl 0 rfl) ?_
    refine mt_get S iw_X3 hC hW wc_0 rfl 1 (by decide) mw_fl_X3_17 rfl rfl dX3_mountThere_6 ?_
    refine mt_alen S hC hW 3 rfl wc_2 (v := 8) rfl dX3_mountThere_9 ?_
    refine lv_icmp_lt (tgt := 15) hx hb dX3_mountThere_10 (by decide) (fun c_2 => ?_) (fun c_2 => ?_)
    · refine lv_aload_n hx hb dX3_mountThere_15 rfl (lv_at hl 0 rfl) ?_
      refine mt_get S iw_X3 hC hW wc_0 rfl 1 (by decide) mw_fl_X3_17 rfl rfl dX3_mountThere_16 ?_
      refine lv_iload_n hx hb dX3_mountThere_19 rfl (lv_at hl 1 rfl) ?_
      refine wk_aald S hC hW 3 rfl wc_2 (vin' (n := 8) c_1 c_2) dX3_mountThere_20 (fun hm_3 => ?_) (fun hm_3 => ?_)
      · refine lv_astore_n (lv' := [(2, .ref (ad (150 + x.toNatClampNeg))), (0, .ref (ad (0))), (1, .int (x))]) hx hb dX3_mountThere_21 rfl hl (by decide) rfl (fun ls hl => ?_)
        refine lv_aload_n hx hb dX3_mountThere_22 rfl (lv_at hl 0 rfl) ?_
        refine lv_ifnull hx hb dX3_mountThere_23 ?_
        refine lv_aload_n hx hb dX3_mountThere_26 rfl (lv_at hl 0 rfl) ?_
        refine mt_getN S iw_X2 hC hW (wc_mnt h8 hm_3) rfl 3 (by decide) mw_fn_X3_97 rfl rfl dX3_mountThere_27 ?_
        refine lv_if_eq (tgt := 37) hx hb dX3_mountThere_30 (by decide) (fun c_4 => ?_) (fun c_4 => ?_)
        · refine lv_null hx hb dX3_mountThere_37 ?_
          exact mt_ra S hr hk (Or.inl rfl) hW hS (congrArg (a₂ := none) (xr_a ad 150) (by rw [c_X3_mountThere, if_neg c_1, if_pos c_2, if_pos hm_3, if_pos c_4])) (Nat.le_of_ble_eq_true rfl) (Nat.le_of_ble_eq_true rfl) dX3_mountThere_38
        · refine lv_aload_n hx hb dX3_mountThere_33 rfl (lv_at hl 0 rfl) ?_
          refine lv_goto (tgt := 38) hx hb dX3_mountThere_34 (by decide) ?_
          exact mt_ra S hr hk (Or.inr ⟨_, rfl⟩) hW hS (congrArg (a₂ := (some x.toNatClampNeg)) (xr_a ad 150) (by rw [c_X3_mountThere, if_neg c_1, if_pos c_2, if_pos hm_3, if_neg c_4])) (Nat.le_of_ble_eq_true rfl) (Nat.le_of_ble_eq_true rfl) dX3_mountThere_38
      · refine lv_astore_nN (lv' := [(2, .null), (0, .ref (ad (0))), (1, .int (x))]) hx hb dX3_mountThere_21 rfl hl (by decide) rfl (fun ls hl => ?_)
        refine lv_aload_nN hx hb dX3_mountThere_22 rfl (lv_at hl 0 rfl) ?_
        refine lv_ifnullN (tgt := 37) hx hb dX3_mountThere_23 (by decide) ?_
        refine lv_null hx hb dX3_mountThere_37 ?_
        exact mt_ra S hr hk (Or.inl rfl) hW hS (congrArg (a₂ := none) (xr_a ad 150) (by rw [c_X3_mountThere, if_neg c_1, if_pos c_2, if_neg hm_3])) (Nat.le_of_ble_eq_true rfl) (Nat.le_of_ble_eq_true rfl) dX3_mountThere_38
    · refine lv_null hx hb dX3_mountThere_13 ?_
      exact mt_ra S hr hk (Or.inl rfl) hW hS (congrArg (a₂ := none) (xr_a ad 150) (by rw [c_X3_mountThere, if_neg c_1, if_neg c_2])) (Nat.le_of_ble_eq_true rfl) (Nat.le_of_ble_eq_true rfl) dX3_mountThere_14
theorem c_mountThere_lt {lc mc bc : Nat} {N G : Nat → Nat → Int32} {x : Int32} {i : Nat} (h : c_X3_mountThere lc mc bc N G x = some i) : i < mc := by
  unfold c_X3_mountThere at h
  repeat' split at h
  all_goals first | (cases h; done) | (cases h; assumption)
def c_X3_checkOwner (x : Int32) : String ⊕ Unit := if (c_X3_isOwner x) = 0 then (.inl "java/lang/IllegalArgumentException") else (.inr ())
set_option maxRecDepth 100000 in
set_option maxHeartbeats 4000000 in
theorem k_X3_checkOwner (l : Launch) (hlt : l.stackTraces = false) (g : mt_G) (z : Nat) (ad : Nat → Nat) (lc mc bc : Nat) (N G : Nat → Nat → Int32) (o : Nat → Int64) (d : mt_D) (h6 : lc ≤ 6) (h8 : mc ≤ 8) (hb6 : bc ≤ 6) (x : Int32)  : mt_K l g z yX3_checkOwner cX3_checkOwner 1 none 6 82 1 6 [.int x] (mt_wc g ad lc mc bc N G o d) ad (xr_u (c_X3_checkOwner x)) (mt_wc g ad lc mc bc N G o d) ad := by
  refine mt_ofW (by decide +kernel) (Nat.le_of_ble_eq_true rfl) ?_
  intro p e s m args below meth c S hr9 hk hnm hout hC hW hS ls hl
  have hr := hr9
  have hx := S.1
  have hb := S.2.1
  have hl : lv_has ls 1 [(0, .int (x))] := hl
  refine lv_iload_n hx hb dX3_checkOwner_0 rfl (lv_at hl 0 rfl) ?_
  refine mt_cS1 (As := [.int (x)]) (rest := []) S ps_X3_isOwner mw_ml_X3_207 (k_X3_isOwner l hlt g z ad lc mc bc N G o d h6 h8 hb6 x) hC hW hS rfl hl.1 rfl (Nat.le_of_ble_eq_true rfl) dX3_checkOwner_1 ⟨(Nat.le_of_ble_eq_true rfl), (Nat.le_of_ble_eq_true rfl)⟩ ⟨(Nat.le_of_ble_eq_true rfl), (Nat.le_of_ble_eq_true rfl)⟩ rfl (fun H locs hW hS => ?_)
  refine lv_if_ne (tgt := 18) hx hb dX3_checkOwner_4 (by decide) (fun c_1 => ?_) (fun c_1 => ?_)
  · exact mt_rv S hr hk hW hS (congrArg (a₂ := .inr ()) xr_u (by rw [c_X3_checkOwner, if_neg c_1])) (Nat.le_of_ble_eq_true rfl) (Nat.le_of_ble_eq_true rfl) dX3_checkOwner_18
  · exact mt_throwW S hlt mp_IAE (List.mem_of_getElem? (i := 8) rfl) hC hW hS hl.1 hout hk (congrArg (a₂ := .inl "java/lang/IllegalArgumentException") xr_u (by rw [c_X3_checkOwner, if_pos c_1])) dX3_checkOwner_7 dX3_checkOwner_10 dX3_checkOwner_11 dX3_checkOwner_14 dX3_checkOwner_17 (Nat.le_of_ble_eq_true rfl) (Nat.le_of_ble_eq_true rfl) ⟨(Nat.le_of_ble_eq_true rfl), (Nat.le_of_ble_eq_true rfl)⟩ (Nat.le_of_ble_eq_true rfl) (Nat.le_of_ble_eq_true rfl)

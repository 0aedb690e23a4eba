def c_X3_kindIn (lc mc bc : Nat) (N G : Nat → Nat → Int32) (n : Int32) (x : Int32) : Int32 := ocase (c_X3_layerAt lc mc bc N G n) 0 (fun i_2 => c_X1_kindAt lc mc bc N G i_2 x)
set_option maxRecDepth 100000 in
set_option maxHeartbeats 4000000 in
theorem k_X3_kindIn (l : Launch) (hlt : l.stackTraces = false) (g : mt_G) (z : Nat) (ad : Nat → Nat) (lc mc bc : Nat) (N G : Nat → Nat → Int32) (o : Nat → Int64) (d : mt_D) (h6 : lc ≤ 6) (h8 : mc ≤ 8) (hb6 : bc ≤ 6) (n : Int32) (x : Int32)  : mt_K l g z yX3_kindIn cX3_kindIn 4 (some .int) 1 21 0 0 [.ref (ad (0)), .int n, .int x] (mt_wc g ad lc mc bc N G o d) ad (.inr (some (.int (c_X3_kindIn lc mc bc N G n x)))) (mt_wc g ad lc mc bc N G o d) ad := by
  refine mt_ofW (by decide +kernel) (Nat.le_of_ble_eq_true rfl) ?_
  intro p e s m args below meth c S hr9 hk hnm hout hC hW hS ls hl
  have hr := hr9
  have hx := S.1
  have hb := S.2.1
  have hl : lv_has ls 4 [(0, .ref (ad (0))), (1, .int (n)), (2, .int (x))] := hl
  refine lv_aload_n hx hb dX3_kindIn_0 rfl (lv_at hl 0 rfl) ?_
  refine lv_iload_n hx hb dX3_kindIn_1 rfl (lv_at hl 1 rfl) ?_
  rcases hq_1 : (c_X3_layerAt lc mc bc N G n) with _ | i_2
  · refine mt_cV1 (v := .null) (As := [.int (n)]) (rest := []) S pv_X3_layerAt mw_ml_X3_61 (k_X3_layerAt l hlt g z ad lc mc bc N G o d h6 h8 hb6 n) hC hW hS wc_0 rfl rfl rfl hl.1 rfl (Nat.le_of_ble_eq_true rfl) dX3_kindIn_2 ⟨(Nat.le_of_ble_eq_true rfl), (Nat.le_of_ble_eq_true rfl)⟩ ⟨(Nat.le_of_ble_eq_true rfl), (Nat.le_of_ble_eq_true rfl)⟩ (congrArg (a₂ := none) (xr_a ad 100) hq_1) (fun H locs hW hS => ?_)
    refine lv_astore_nN (lv' := [(3, .null), (0, .ref (ad (0))), (1, .int (n)), (2, .int (x))]) hx hb dX3_kindIn_5 rfl hl (by decide) rfl (fun ls hl => ?_)
    refine lv_aload_nN hx hb dX3_kindIn_6 rfl (lv_at hl 0 rfl) ?_
    refine lv_ifnonnullN hx hb dX3_kindIn_7 ?_
    refine lv_iconst (v := 0) hx hb dX3_kindIn_10 (by decide) ?_
    refine lv_goto (tgt := 19) hx hb dX3_kindIn_11 (by decide) ?_
    exact mt_ri S hr hk hW hS (by rw [c_X3_kindIn, ocase_n hq_1]) (Nat.le_of_ble_eq_true rfl) (Nat.le_of_ble_eq_true rfl) dX3_kindIn_19
  · refine mt_cV1 (v := .ref (ad (100 + i_2))) (As := [.int (n)]) (rest := []) S pv_X3_layerAt mw_ml_X3_61 (k_X3_layerAt l hlt g z ad lc mc bc N G o d h6 h8 hb6 n) hC hW hS wc_0 rfl rfl rfl hl.1 rfl (Nat.le_of_ble_eq_true rfl) dX3_kindIn_2 ⟨(Nat.le_of_ble_eq_true rfl), (Nat.le_of_ble_eq_true rfl)⟩ ⟨(Nat.le_of_ble_eq_true rfl), (Nat.le_of_ble_eq_true rfl)⟩ (congrArg (a₂ := some i_2) (xr_a ad 100) hq_1) (fun H locs hW hS => ?_)
    have hi_i_2 := c_layerAt_lt hq_1
    refine lv_astore_n (lv' := [(3, .ref (ad (100 + i_2))), (0, .ref (ad (0))), (1, .int (n)), (2, .int (x))]) hx hb dX3_kindIn_5 rfl hl (by decide) rfl (fun ls hl => ?_)
    refine lv_aload_n hx hb dX3_kindIn_6 rfl (lv_at hl 0 rfl) ?_
    refine lv_ifnonnull (tgt := 14) hx hb dX3_kindIn_7 (by decide) ?_
    refine lv_aload_n hx hb dX3_kindIn_14 rfl (lv_at hl 0 rfl) ?_
    refine lv_iload_n hx hb dX3_kindIn_15 rfl (lv_at hl 3 rfl) ?_
    refine mt_cV1 (As := [.int (x)]) (rest := []) S pv_X1_kindAt mw_ml_X3_275 (k_X1_kindAt l hlt g z ad lc mc bc N G o d h6 h8 hb6 i_2 x hi_i_2) hC hW hS (wc_lay h6 hi_i_2) rfl rfl rfl hl.1 rfl (Nat.le_of_ble_eq_true rfl) dX3_kindIn_16 ⟨(Nat.le_of_ble_eq_true rfl), (Nat.le_of_ble_eq_true rfl)⟩ ⟨(Nat.le_of_ble_eq_true rfl), (Nat.le_of_ble_eq_true rfl)⟩ rfl (fun H locs hW hS => ?_)
    exact mt_ri S hr hk hW hS (by rw [c_X3_kindIn, ocase_s hq_1]) (Nat.le_of_ble_eq_true rfl) (Nat.le_of_ble_eq_true rfl) dX3_kindIn_19
def c_X3_fileSizeIn (lc mc bc : Nat) (N G : Nat → Nat → Int32) (n : Int32) (x : Int32) : Int32 := ocase (c_X3_layerAt lc mc bc N G n) (-1) (fun i_2 => c_X1_fileSizeAt lc mc bc N G i_2 x)
set_option maxRecDepth 100000 in
set_option maxHeartbeats 4000000 in
theorem k_X3_fileSizeIn (l : Launch) (hlt : l.stackTraces = false) (g : mt_G) (z : Nat) (ad : Nat → Nat) (lc mc bc : Nat) (N G : Nat → Nat → Int32) (o : Nat → Int64) (d : mt_D) (h6 : lc ≤ 6) (h8 : mc ≤ 8) (hb6 : bc ≤ 6) (n : Int32) (x : Int32)  : mt_K l g z yX3_fileSizeIn cX3_fileSizeIn 4 (some .int) 2 42 0 0 [.ref (ad (0)), .int n, .int x] (mt_wc g ad lc mc bc N G o d) ad (.inr (some (.int (c_X3_fileSizeIn lc mc bc N G n x)))) (mt_wc g ad lc mc bc N G o d) ad := by
  refine mt_ofW (by decide +kernel) (Nat.le_of_ble_eq_true rfl) ?_
  intro p e s m args below meth c S hr9 hk hnm hout hC hW hS ls hl
  have hr := hr9
  have hx := S.1
  have hb := S.2.1
  have hl : lv_has ls 4 [(0, .ref (ad (0))), (1, .int (n)), (2, .int (x))] := hl
  refine lv_aload_n hx hb dX3_fileSizeIn_0 rfl (lv_at hl 0 rfl) ?_
  refine lv_iload_n hx hb dX3_fileSizeIn_1 rfl (lv_at hl 1 rfl) ?_
  rcases hq_1 : (c_X3_layerAt lc mc bc N G n) with _ | i_2
  · refine mt_cV1 (v := .null) (As := [.int (n)]) (rest := []) S pv_X3_layerAt mw_ml_X3_61 (k_X3_layerAt l hlt g z ad lc mc bc N G o d h6 h8 hb6 n) hC hW hS wc_0 rfl rfl rfl hl.1 rfl (Nat.le_of_ble_eq_true rfl) dX3_fileSizeIn_2 ⟨(Nat.le_of_ble_eq_true rfl), (Nat.le_of_ble_eq_true rfl)⟩ ⟨(Nat.le_of_ble_eq_true rfl), (Nat.le_of_ble_eq_true rfl)⟩ (congrArg (a₂ := none) (xr_a ad 100) hq_1) (fun H locs hW hS => ?_)
    refine lv_astore_nN (lv' := [(3, .null), (0, .ref (ad (0))), (1, .int (n)), (2, .int (x))]) hx hb dX3_fileSizeIn_5 rfl hl (by decide) rfl (fun ls hl => ?_)
    refine lv_aload_nN hx hb dX3_fileSizeIn_6 rfl (lv_at hl 0 rfl) ?_
    refine lv_ifnonnullN hx hb dX3_fileSizeIn_7 ?_
    refine lv_iconst (v := -1) hx hb dX3_fileSizeIn_10 (by decide) ?_
    refine lv_goto (tgt := 19) hx hb dX3_fileSizeIn_11 (by decide) ?_
    exact mt_ri S hr hk hW hS (by rw [c_X3_fileSizeIn, ocase_n hq_1]) (Nat.le_of_ble_eq_true rfl) (Nat.le_of_ble_eq_true rfl) dX3_fileSizeIn_19
  · refine mt_cV1 (v := .ref (ad (100 + i_2))) (As := [.int (n)]) (rest := []) S pv_X3_layerAt mw_ml_X3_61 (k_X3_layerAt l hlt g z ad lc mc bc N G o d h6 h8 hb6 n) hC hW hS wc_0 rfl rfl rfl hl.1 rfl (Nat.le_of_ble_eq_true rfl) dX3_fileSizeIn_2 ⟨(Nat.le_of_ble_eq_true rfl), (Nat.le_of_ble_eq_true rfl)⟩ ⟨(Nat.le_of_ble_eq_true rfl), (Nat.le_of_ble_eq_true rfl)⟩ (congrArg (a₂ := some i_2) (xr_a ad 100) hq_1) (fun H locs hW hS => ?_)
    have hi_i_2 := c_layerAt_lt hq_1
    refine lv_astore_n (lv' := [(3, .ref (ad (100 + i_2))), (0, .ref (ad (0))), (1, .int (n)), (2, .int (x))]) hx hb dX3_fileSizeIn_5 rfl hl (by decide) rfl (fun ls hl => ?_)
    refine lv_aload_n hx hb dX3_fileSizeIn_6 rfl (lv_at hl 0 rfl) ?_
    refine lv_ifnonnull (tgt := 14) hx hb dX3_fileSizeIn_7 (by decide) ?_
    refine lv_aload_n hx hb dX3_fileSizeIn_14 rfl (lv_at hl 0 rfl) ?_
    refine lv_iload_n hx hb dX3_fileSizeIn_15 rfl (lv_at hl 3 rfl) ?_
    refine mt_cV1 (As := [.int (x)]) (rest := []) S pv_X1_fileSizeAt mw_ml_X3_278 (k_X1_fileSizeAt l hlt g z ad lc mc bc N G o d h6 h8 hb6 i_2 x hi_i_2) hC hW hS (wc_lay h6 hi_i_2) rfl rfl rfl hl.1 rfl (Nat.le_of_ble_eq_true rfl) dX3_fileSizeIn_16 ⟨(Nat.le_of_ble_eq_true rfl), (Nat.le_of_ble_eq_true rfl)⟩ ⟨(Nat.le_of_ble_eq_true rfl), (Nat.le_of_ble_eq_true rfl)⟩ rfl (fun H locs hW hS => ?_)
    exact mt_ri S hr hk hW hS (by rw [c_X3_fileSizeIn, ocase_s hq_1]) (Nat.le_of_ble_eq_true rfl) (Nat.le_of_ble_eq_true rfl) dX3_fileSizeIn_19
def c_X3_layerShownBy (lc mc bc : Nat) (N G : Nat → Nat → Int32) (r : Option Nat) (x : Int32) : Int32 := ocase r (-1) (fun j => if (c_X3_kindIn lc mc bc N G (N (150 + j) 1) x) = 0 then (if (c_X3_isThing (c_X3_kindIn lc mc bc N G (N (150 + j) 0) x)) = 0 then (-1) else (N (150 + j) 0)) else (if (c_X3_isThing (c_X3_kindIn lc mc bc N G (N (150 + j) 1) x)) = 0 then (-1) else (N (150 + j) 1)))
set_option maxRecDepth 100000 in
set_option maxHeartbeats 4000000 in
theorem k_X3_layerShownBy (l : Launch) (hlt : l.stackTraces = false) (g : mt_G) (z : Nat) (ad : Nat → Nat) (lc mc bc : Nat) (N G : Nat → Nat → Int32) (o : Nat → Int64) (d : mt_D) (h6 : lc ≤ 6) (h8 : mc ≤ 8) (hb6 : bc ≤ 6) (r : Option Nat) (x : Int32) (hr : ∀ i, r = some i → i < mc) : mt_K l g z yX3_layerShownBy cX3_layerShownBy 4 (some .int) 2 44 0 0 [.ref (ad (0)), va_rf (r.map (fun i => ad (150 + i))), .int x] (mt_wc g ad lc mc bc N G o d) ad (.inr (some (.int (c_X3_layerShownBy lc mc bc N G r x)))) (mt_wc g ad lc mc bc N G o d) ad := by
  cases r with
  | none =>
    refine mt_ofW (by decide +kernel) (Nat.le_of_ble_eq_true rfl) ?_
    intro p e s m args below meth c S hr9 hk hnm hout hC hW hS ls hl
    have hr := hr9
    have hx := S.1
    have hb := S.2.1
    have hl : lv_has ls 4 [(0, .ref (ad (0))), (1, .null), (2, .int (x))] := hl
    refine lv_aload_nN hx hb dX3_layerShownBy_0 rfl (lv_at hl 1 rfl) ?_
    refine lv_ifnonnullN hx hb dX3_layerShownBy_1 ?_
    refine lv_iconst (v := -1) hx hb dX3_layerShownBy_4 (by decide) ?_
    exact mt_ri S hr hk hW hS (by rw [c_X3_layerShownBy, ocase_n rfl]) (Nat.le_of_ble_eq_true rfl) (Nat.le_of_ble_eq_true rfl) dX3_layerShownBy_5
  | some j =>
    have hj := hr j rfl
    refine mt_ofW (by decide +kernel) (Nat.le_of_ble_eq_true rfl) ?_
    intro p e s m args below meth c S hr9 hk hnm hout hC hW hS ls hl
    have hr := hr9
    have hx := S.1
    have hb := S.2.1
    have hl : lv_has ls 4 [(0, .ref (ad (0))), (1, .ref (ad (150 + j))), (2, .int (x))] := hl
    refine lv_aload_n hx hb dX3_layerShownBy_0 rfl (lv_at hl 1 rfl) ?_
    refine lv_ifnonnull (tgt := 6) hx hb dX3_layerShownBy_1 (by decide) ?_
    refine lv_aload_n hx hb dX3_layerShownBy_6 rfl (lv_at hl 0 rfl) ?_
    refine lv_aload_n hx hb dX3_layerShownBy_7 rfl (lv_at hl 1 rfl) ?_
    refine mt_getN S iw_X2 hC hW (wc_mnt h8 hj) rfl 1 (by decide) mw_fn_X3_158 rfl rfl dX3_layerShownBy_8 ?_
    refine lv_iload_n hx hb dX3_layerShownBy_11 rfl (lv_at hl 2 rfl) ?_
    refine mt_cV1 (As := [.int (N (150 + j) 1), .int (x)]) (rest := []) S pv_X3_kindIn mw_ml_X3_164 (k_X3_kindIn l hlt g z ad lc mc bc N G o d h6 h8 hb6 (N (150 + j) 1) x) hC hW hS wc_0 rfl rfl rfl hl.1 rfl (Nat.le_of_ble_eq_true rfl) dX3_layerShownBy_12 ⟨(Nat.le_of_ble_eq_true rfl), (Nat.le_of_ble_eq_true rfl)⟩ ⟨(Nat.le_of_ble_eq_true rfl), (Nat.le_of_ble_eq_true rfl)⟩ rfl (fun H locs hW hS => ?_)
    refine lv_istore_n (lv' := [(3, .int (c_X3_kindIn lc mc bc N G (N (150 + j) 1) x)), (0, .ref (ad (0))), (1, .ref (ad (150 + j))), (2, .int (x))]) hx hb dX3_layerShownBy_15 rfl hl (by decide) rfl (fun ls hl => ?_)
    refine lv_iload_n hx hb dX3_layerShownBy_16 rfl (lv_at hl 0 rfl) ?_
    refine lv_if_eq (tgt := 36) hx hb dX3_layerShownBy_17 (by decide) (fun c_1 => ?_) (fun c_1 => ?_)
    · refine lv_aload_n hx hb dX3_layerShownBy_36 rfl (lv_at hl 1 rfl) ?_
      refine lv_aload_n hx hb dX3_layerShownBy_37 rfl (lv_at hl 2 rfl) ?_
      refine mt_getN S iw_X2 hC hW (wc_mnt h8 hj) rfl 0 (by decide) mw_fn_X3_161 rfl rfl dX3_layerShownBy_38 ?_
      refine lv_iload_n hx hb dX3_layerShownBy_41 rfl (lv_at hl 3 rfl) ?_
      refine mt_cV1 (As := [.int (N (150 + j) 0), .int (x)]) (rest := []) S pv_X3_kindIn mw_ml_X3_164 (k_X3_kindIn l hlt g z ad lc mc bc N G o d h6 h8 hb6 (N (150 + j) 0) x) hC hW hS wc_0 rfl rfl rfl hl.1 rfl (Nat.le_of_ble_eq_true rfl) dX3_layerShownBy_42 ⟨(Nat.le_of_ble_eq_true rfl), (Nat.le_of_ble_eq_true rfl)⟩ ⟨(Nat.le_of_ble_eq_true rfl), (Nat.le_of_ble_eq_true rfl)⟩ rfl (fun H locs hW hS => ?_)
      refine mt_cS1 (As := [.int (c_X3_kindIn lc mc bc N G (N (150 + j) 0) x)]) (rest := []) S ps_X3_isThing mw_ml_X3_167 (k_X3_isThing l hlt g z ad lc mc bc N G o d h6 h8 hb6 (c_X3_kindIn lc mc bc N G (N (150 + j) 0) x)) hC hW hS rfl hl.1 rfl (Nat.le_of_ble_eq_true rfl) dX3_layerShownBy_45 ⟨(Nat.le_of_ble_eq_true rfl), (Nat.le_of_ble_eq_true rfl)⟩ ⟨(Nat.le_of_ble_eq_true rfl), (Nat.le_of_ble_eq_true rfl)⟩ rfl (fun H locs hW hS => ?_)
      refine lv_if_eq (tgt := 58) hx hb dX3_layerShownBy_48 (by decide) (fun c_2 => ?_) (fun c_2 => ?_)
      · refine lv_iconst (v := -1) hx hb dX3_layerShownBy_58 (by decide) ?_
        exact mt_ri S hr hk hW hS (by rw [c_X3_layerShownBy, ocase_s rfl, if_pos c_1, if_pos c_2]) (Nat.le_of_ble_eq_true rfl) (Nat.le_of_ble_eq_true rfl) dX3_layerShownBy_59
      · refine lv_aload_n hx hb dX3_layerShownBy_51 rfl (lv_at hl 2 rfl) ?_
        refine mt_getN S iw_X2 hC hW (wc_mnt h8 hj) rfl 0 (by decide) mw_fn_X3_161 rfl rfl dX3_layerShownBy_52 ?_
        refine lv_goto (tgt := 59) hx hb dX3_layerShownBy_55 (by decide) ?_
        exact mt_ri S hr hk hW hS (by rw [c_X3_layerShownBy, ocase_s rfl, if_pos c_1, if_neg c_2]) (Nat.le_of_ble_eq_true rfl) (Nat.le_of_ble_eq_true rfl) dX3_layerShownBy_59
    · refine lv_iload_n hx hb dX3_layerShownBy_20 rfl (lv_at hl 0 rfl) ?_
      refine mt_cS1 (As := [.int (c_X3_kindIn lc mc bc N G (N (150 + j) 1) x)]) (rest := []) S ps_X3_isThing mw_ml_X3_167 (k_X3_isThing l hlt g z ad lc mc bc N G o d h6 h8 hb6 (c_X3_kindIn lc mc bc N G (N (150 + j) 1) x)) hC hW hS rfl hl.1 rfl (Nat.le_of_ble_eq_true rfl) dX3_layerShownBy_21 ⟨(Nat.le_of_ble_eq_true rfl), (Nat.le_of_ble_eq_true rfl)⟩ ⟨(Nat.le_of_ble_eq_true rfl), (Nat.le_of_ble_eq_true rfl)⟩ rfl (fun H locs hW hS => ?_)
      refine lv_if_eq (tgt := 34) hx hb dX3_layerShownBy_24 (by decide) (fun c_3 => ?_) (fun c_3 => ?_)
      · refine lv_iconst (v := -1) hx hb dX3_layerShownBy_34 (by decide) ?_
        exact mt_ri S hr hk hW hS (by rw [c_X3_layerShownBy, ocase_s rfl, if_neg c_1, if_pos c_3]) (Nat.le_of_ble_eq_true rfl) (Nat.le_of_ble_eq_true rfl) dX3_layerShownBy_35
      · refine lv_aload_n hx hb dX3_layerShownBy_27 rfl (lv_at hl 2 rfl) ?_
        refine mt_getN S iw_X2 hC hW (wc_mnt h8 hj) rfl 1 (by decide) mw_fn_X3_158 rfl rfl dX3_layerShownBy_28 ?_
        refine lv_goto (tgt := 35) hx hb dX3_layerShownBy_31 (by decide) ?_
        exact mt_ri S hr hk hW hS (by rw [c_X3_layerShownBy, ocase_s rfl, if_neg c_1, if_neg c_3]) (Nat.le_of_ble_eq_true rfl) (Nat.le_of_ble_eq_true rfl) dX3_layerShownBy_35
def c_X3_layerShown (lc mc bc : Nat) (N G : Nat → Nat → Int32) (x : Int32) : Int32 := ocase (c_X3_mountThere lc mc bc N G (c_X3_serverAt lc mc bc N G x)) (c_X3_layerShownBy lc mc bc N G none (c_X3_restAt lc mc bc N G x)) (fun i_2 => c_X3_layerShownBy lc mc bc N G (some i_2) (c_X3_restAt lc mc bc N G x))
set_option maxRecDepth 100000 in
set_option maxHeartbeats 4000000 in
theorem k_X3_layerShown (l : Launch) (hlt : l.stackTraces = false) (g : mt_G) (z : Nat) (ad : Nat → Nat) (lc mc bc : Nat) (N G : Nat → Nat → Int32) (o : Nat → Int64) (d : mt_D) (h6 : lc ≤ 6) (h8 : mc ≤ 8) (hb6 : bc ≤ 6) (x : Int32)  : mt_K l g z yX3_layerShown cX3_layerShown 2 (some .int) 3 67 0 0 [.ref (ad (0)), .int x] (mt_wc g ad lc mc bc N G o d) ad (.inr (some (.int (c_X3_layerShown lc mc bc N G x)))) (mt_wc g ad lc mc bc N G o d) ad := by
  refine mt_ofW (by decide +kernel) (Nat.le_of_ble_eq_true rfl) ?_
  intro p e s m args below meth c S hr9 hk hnm hout hC hW hS ls hl
  have hr := hr9
  have hx := S.1
  have hb := S.2.1
  have hl : lv_has ls 2 [(0, .ref (ad (0))), (1, .int (x))] := hl
  refine lv_aload_n hx hb dX3_layerShown_0 rfl (lv_at hl 0 rfl) ?_
  refine lv_aload_n hx hb dX3_layerShown_1 rfl (lv_at hl 0 rfl) ?_
  refine lv_aload_n hx hb dX3_layerShown_2 rfl (lv_at hl 0 rfl) ?_
  refine lv_iload_n hx hb dX3_layerShown_3 rfl (lv_at hl 1 rfl) ?_
  refine mt_cV1 (As := [.int (x)]) (rest := [.ref (ad (0)), .ref (ad (0))]) S pv_X3_serverAt mw_ml_X3_113 (k_X3_serverAt l hlt g z ad lc mc bc N G o d h6 h8 hb6 x) hC hW hS wc_0 rfl rfl rfl hl.1 rfl (Nat.le_of_ble_eq_true rfl) dX3_layerShown_4 ⟨(Nat.le_of_ble_eq_true rfl), (Nat.le_of_ble_eq_true rfl)⟩ ⟨(Nat.le_of_ble_eq_true rfl), (Nat.le_of_ble_eq_true rfl)⟩ rfl (fun H locs hW hS => ?_)
  rcases hq_1 : (c_X3_mountThere lc mc bc N G (c_X3_serverAt lc mc bc N G x)) with _ | i_2
  · refine mt_cV1 (v := .null) (As := [.int (c_X3_serverAt lc mc bc N G x)]) (rest := [.ref (ad (0))]) S pv_X3_mountThere mw_ml_X3_101 (k_X3_mountThere l hlt g z ad lc mc bc N G o d h6 h8 hb6 (c_X3_serverAt lc mc bc N G x)) hC hW hS wc_0 rfl rfl rfl hl.1 rfl (Nat.le_of_ble_eq_true rfl) dX3_layerShown_7 ⟨(Nat.le_of_ble_eq_true rfl), (Nat.le_of_ble_eq_true rfl)⟩ ⟨(Nat.le_of_ble_eq_true rfl), (Nat.le_of_ble_eq_true rfl)⟩ (congrArg (a₂ := none) (xr_a ad 150) hq_1) (fun H locs hW hS => ?_)
    refine lv_aload_n hx hb dX3_layerShown_10 rfl (lv_at hl 0 rfl) ?_
    refine lv_iload_n hx hb dX3_layerShown_11 rfl (lv_at hl 1 rfl) ?_
    refine mt_cV1 (As := [.int (x)]) (rest := [.null, .ref (ad (0))]) S pv_X3_restAt mw_ml_X3_133 (k_X3_restAt l hlt g z ad lc mc bc N G o d h6 h8 hb6 x) hC hW hS wc_0 rfl rfl rfl hl.1 rfl (Nat.le_of_ble_eq_true rfl) dX3_layerShown_12 ⟨(Nat.le_of_ble_eq_true rfl), (Nat.le_of_ble_eq_true rfl)⟩ ⟨(Nat.le_of_ble_eq_true rfl), (Nat.le_of_ble_eq_true rfl)⟩ rfl (fun H locs hW hS => ?_)
    refine mt_cV1 (As := [.null, .int (c_X3_restAt lc mc bc N G x)]) (rest := []) S pv_X3_layerShownBy mw_ml_X3_194 (k_X3_layerShownBy l hlt g z ad lc mc bc N G o d h6 h8 hb6 none (c_X3_restAt lc mc bc N G x) (fun i e => by cases e)) hC hW hS wc_0 rfl rfl rfl hl.1 rfl (Nat.le_of_ble_eq_true rfl) dX3_layerShown_15 ⟨(Nat.le_of_ble_eq_true rfl), (Nat.le_of_ble_eq_true rfl)⟩ ⟨(Nat.le_of_ble_eq_true rfl), (Nat.le_of_ble_eq_true rfl)⟩ rfl (fun H locs hW hS => ?_)
    exact mt_ri S hr hk hW hS (by rw [c_X3_layerShown, ocase_n hq_1]) (Nat.le_of_ble_eq_true rfl) (Nat.le_of_ble_eq_true rfl) dX3_layerShown_18
  · refine mt_cV1 (v := .ref (ad (150 + i_2))) (As := [.int (c_X3_serverAt lc mc bc N G x)]) (rest := [.ref (ad (0))]) S pv_X3_mountThere mw_ml_X3_101 (k_X3_mountThere l hlt g z ad lc mc bc N G o d h6 h8 hb6 (c_X3_serverAt lc mc bc N G x)) hC hW hS wc_0 rfl rfl rfl hl.1 rfl (Nat.le_of_ble_eq_true rfl) dX3_layerShown_7 ⟨(Nat.le_of_ble_eq_true rfl), (Nat.le_of_ble_eq_true rfl)⟩ ⟨(Nat.le_of_ble_eq_true rfl), (Nat.le_of_ble_eq_true rfl)⟩ (congrArg (a₂ := some i_2) (xr_a ad 150) hq_1) (fun H locs hW hS => ?_)
    have hi_i_2 := c_mountThere_lt hq_1
    refine lv_aload_n hx hb dX3_layerShown_10 rfl (lv_at hl 0 rfl) ?_
    refine lv_iload_n hx hb dX3_layerShown_11 rfl (lv_at hl 1 rfl) ?_
    refine mt_cV1 (As := [.int (x)]) (rest := [.ref (ad (150 + i_2)), .ref (ad (0))]) S pv_X3_restAt mw_ml_X3_133 (k_X3_restAt l hlt g z ad lc mc bc N G o d h6 h8 hb6 x) hC hW hS wc_0 rfl rfl rfl hl.1 rfl (Nat.le_of_ble_eq_true rfl) dX3_layerShown_12 ⟨(Nat.le_of_ble_eq_true rfl), (Nat.le_of_ble_eq_true rfl)⟩ ⟨(Nat.le_of_ble_eq_true rfl), (Nat.le_of_ble_eq_true rfl)⟩ rfl (fun H locs hW hS => ?_)
    refine mt_cV1 (As := [.ref (ad (150 + i_2)), .int (c_X3_restAt lc mc bc N G x)]) (rest := []) S pv_X3_layerShownBy mw_ml_X3_194 (k_X3_layerShownBy l hlt g z ad lc mc bc N G o d h6 h8 hb6 (some i_2) (c_X3_restAt lc mc bc N G x) (fun i e => by cases e; exact hi_i_2)) hC hW hS wc_0 rfl rfl rfl hl.1 rfl (Nat.le_of_ble_eq_true rfl) dX3_layerShown_15 ⟨(Nat.le_of_ble_eq_true rfl), (Nat.le_of_ble_eq_true rfl)⟩ ⟨(Nat.le_of_ble_eq_true rfl), (Nat.le_of_ble_eq_true rfl)⟩ rfl (fun H locs hW hS => ?_)
    exact mt_ri S hr hk hW hS (by rw [c_X3_layerShown, ocase_s hq_1]) (Nat.le_of_ble_eq_true rfl) (Nat.le_of_ble_eq_true rfl) dX3_layerShown_18
def c_X3_checkedShown (lc mc bc : Nat) (N G : Nat → Nat → Int32) (x : Int32) : String ⊕ Nat := ocase (c_X3_layerAt lc mc bc N G (c_X3_layerShown lc mc bc N G x)) (.inl "java/util/NoSuchElementException") (fun i_2 => .inr i_2)
set_option maxRecDepth 100000 in
set_option maxHeartbeats 4000000 in
theorem k_X3_checkedShown (l : Launch) (hlt : l.stackTraces = false) (g : mt_G) (z : Nat) (ad : Nat → Nat) (lc mc bc : Nat) (N G : Nat → Nat → Int32) (o : Nat → Int64) (d : mt_D) (h6 : lc ≤ 6) (h8 : mc ≤ 8) (hb6 : bc ≤ 6) (x : Int32)  : mt_K l g z yX3_checkedShown cX3_checkedShown 3 (some (.object "MountTable$Layer")) 6 88 1 6 [.ref (ad (0)), .int x] (mt_wc g ad lc mc bc N G o d) ad (xr_n ad 100 (c_X3_checkedShown lc mc bc N G x)) (mt_wc g ad lc mc bc N G o d) ad := by
  refine mt_ofW (by decide +kernel) (Nat.le_of_ble_eq_true rfl) ?_
  intro p e s m args below meth c S hr9 hk hnm hout hC hW hS ls hl
  have hr := hr9
  have hx := S.1
  have hb := S.2.1
  have hl : lv_has ls 3 [(0, .ref (ad (0))), (1, .int (x))] := hl
  refine lv_aload_n hx hb dX3_checkedShown_0 rfl (lv_at hl 0 rfl) ?_
  refine lv_aload_n hx hb dX3_checkedShown_1 rfl (lv_at hl 0 rfl) ?_
  refine lv_iload_n hx hb dX3_checkedShown_2 rfl (lv_at hl 1 rfl) ?_
  refine mt_cV1 (As := [.int (x)]) (rest := [.ref (ad (0))]) S pv_X3_layerShown mw_ml_X3_178 (k_X3_layerShown l hlt g z ad lc mc bc N G o d h6 h8 hb6 x) hC hW hS wc_0 rfl rfl rfl hl.1 rfl (Nat.le_of_ble_eq_true rfl) dX3_checkedShown_3 ⟨(Nat.le_of_ble_eq_true rfl), (Nat.le_of_ble_eq_true rfl)⟩ ⟨(Nat.le_of_ble_eq_true rfl), (Nat.le_of_ble_eq_true rfl)⟩ rfl (fun H locs hW hS => ?_)
  rcases hq_1 : (c_X3_layerAt lc mc bc N G (c_X3_layerShown lc mc bc N G x)) with _ | i_2
  · refine mt_cV1 (v := .null) (As := [.int (c_X3_layerShown lc mc bc N G x)]) (rest := []) S pv_X3_layerAt mw_ml_X3_61 (k_X3_layerAt l hlt g z ad lc mc bc N G o d h6 h8 hb6 (c_X3_layerShown lc mc bc N G x)) hC hW hS wc_0 rfl rfl rfl hl.1 rfl (Nat.le_of_ble_eq_true rfl) dX3_checkedShown_6 ⟨(Nat.le_of_ble_eq_true rfl), (Nat.le_of_ble_eq_true rfl)⟩ ⟨(Nat.le_of_ble_eq_true rfl), (Nat.le_of_ble_eq_true rfl)⟩ (congrArg (a₂ := none) (xr_a ad 100) hq_1) (fun H locs hW hS => ?_)
    refine lv_astore_nN (lv' := [(2, .null), (0, .ref (ad (0))), (1, .int (x))]) hx hb dX3_checkedShown_9 rfl hl (by decide) rfl (fun ls hl => ?_)
    refine lv_aload_nN hx hb dX3_checkedShown_10 rfl (lv_at hl 0 rfl) ?_
    refine lv_ifnonnullN hx hb dX3_checkedShown_11 ?_
    exact mt_throw S hlt mp_NSE (List.mem_of_getElem? (i := 12) rfl) hC hW hS hl.1 hout hk (congrArg (a₂ := .inl "java/util/NoSuchElementException") (xr_n ad 100) (by rw [c_X3_checkedShown, ocase_n hq_1])) dX3_checkedShown_14 dX3_checkedShown_17 dX3_checkedShown_18 dX3_checkedShown_20 dX3_checkedShown_23 (Nat.le_of_ble_eq_true rfl) (Nat.le_of_ble_eq_true rfl) ⟨(Nat.le_of_ble_eq_true rfl), (Nat.le_of_ble_eq_true rfl)⟩ (Nat.le_of_ble_eq_true rfl) (Nat.le_of_ble_eq_true rfl)
  · refine mt_cV1 (v := .ref (ad (100 + i_2))) (As := [.int (c_X3_layerShown lc mc bc N G x)]) (rest := []) S pv_X3_layerAt mw_ml_X3_61 (k_X3_layerAt l hlt g z ad lc mc bc N G o d h6 h8 hb6 (c_X3_layerShown lc mc bc N G x)) hC hW hS wc_0 rfl rfl rfl hl.1 rfl (Nat.le_of_ble_eq_true rfl) dX3_checkedShown_6 ⟨(Nat.le_of_ble_eq_true rfl), (Nat.le_of_ble_eq_true rfl)⟩ ⟨(Nat.le_of_ble_eq_true rfl), (Nat.le_of_ble_eq_true rfl)⟩ (congrArg (a₂ := some i_2) (xr_a ad 100) hq_1) (fun H locs hW hS => ?_)
    have hi_i_2 := c_layerAt_lt hq_1
    refine lv_astore_n (lv' := [(2, .ref (ad (100 + i_2))), (0, .ref (ad (0))), (1, .int (x))]) hx hb dX3_checkedShown_9 rfl hl (by decide) rfl (fun ls hl => ?_)
    refine lv_aload_n hx hb dX3_checkedShown_10 rfl (lv_at hl 0 rfl) ?_
    refine lv_ifnonnull (tgt := 24) hx hb dX3_checkedShown_11 (by decide) ?_
    refine lv_aload_n hx hb dX3_checkedShown_24 rfl (lv_at hl 0 rfl) ?_
    exact mt_ra S hr hk (Or.inr ⟨_, rfl⟩) hW hS (congrArg (a₂ := .inr i_2) (xr_n ad 100) (by rw [c_X3_checkedShown, ocase_s hq_1])) (Nat.le_of_ble_eq_true rfl) (Nat.le_of_ble_eq_true rfl) dX3_checkedShown_25
theorem c_checkedShown_lt {lc mc bc : Nat} {N G : Nat → Nat → Int32} {x : Int32} {i : Nat} (h : c_X3_checkedShown lc mc bc N G x = .inr i) : i < lc := by
  unfold c_X3_checkedShown at h
  cases hq : c_X3_layerAt lc mc bc N G (c_X3_layerShown lc mc bc N G x) with
  | none => rw [ocase_n hq] at h; cases h
  | some j => rw [ocase_s hq] at h; cases h; exact c_layerAt_lt hq
def c_X3_shownFileSize (lc mc bc : Nat) (N G : Nat → Nat → Int32) (x : Int32) : Int32 := c_X3_fileSizeIn lc mc bc N G (c_X3_layerShown lc mc bc N G x) (c_X3_restAt lc mc bc N G x)
set_option maxRecDepth 100000 in
set_option maxHeartbeats 4000000 in
theorem k_X3_shownFileSize (l : Launch) (hlt : l.stackTraces = false) (g : mt_G) (z : Nat) (ad : Nat → Nat) (lc mc bc : Nat) (N G : Nat → Nat → Int32) (o : Nat → Int64) (d : mt_D) (h6 : lc ≤ 6) (h8 : mc ≤ 8) (hb6 : bc ≤ 6) (x : Int32)  : mt_K l g z yX3_shownFileSize cX3_shownFileSize 2 (some .int) 4 88 0 0 [.ref (ad (0)), .int x] (mt_wc g ad lc mc bc N G o d) ad (.inr (some (.int (c_X3_shownFileSize lc mc bc N G x)))) (mt_wc g ad lc mc bc N G o d) ad := by
  refine mt_ofW (by decide +kernel) (Nat.le_of_ble_eq_true rfl) ?_
  intro p e s m args below meth c S hr9 hk hnm hout hC hW hS ls hl
  have hr := hr9
  have hx := S.1
  have hb := S.2.1
  have hl : lv_has ls 2 [(0, .ref (ad (0))), (1, .int (x))] := hl
  refine lv_aload_n hx hb dX3_shownFileSize_0 rfl (lv_at hl 0 rfl) ?_
  refine lv_aload_n hx hb dX3_shownFileSize_1 rfl (lv_at hl 0 rfl) ?_
  refine lv_iload_n hx hb dX3_shownFileSize_2 rfl (lv_at hl 1 rfl) ?_
  refine mt_cV1 (As := [.int (x)]) (rest := [.ref (ad (0))]) S pv_X3_layerShown mw_ml_X3_178 (k_X3_layerShown l hlt g z ad lc mc bc N G o d h6 h8 hb6 x) hC hW hS wc_0 rfl rfl rfl hl.1 rfl (Nat.le_of_ble_eq_true rfl) dX3_shownFileSize_3 ⟨(Nat.le_of_ble_eq_true rfl), (Nat.le_of_ble_eq_true rfl)⟩ ⟨(Nat.le_of_ble_eq_true rfl), (Nat.le_of_ble_eq_true rfl)⟩ rfl (fun H locs hW hS => ?_)
  refine lv_aload_n hx hb dX3_shownFileSize_6 rfl (lv_at hl 0 rfl) ?_
  refine lv_iload_n hx hb dX3_shownFileSize_7 rfl (lv_at hl 1 rfl) ?_
  refine mt_cV1 (As := [.int (x)]) (rest := [.int (c_X3_layerShown lc mc bc N G x), .ref (ad (0))]) S pv_X3_restAt mw_ml_X3_133 (k_X3_restAt l hlt g z ad lc mc bc N G o d h6 h8 hb6 x) hC hW hS wc_0 rfl rfl rfl hl.1 rfl (Nat.le_of_ble_eq_true rfl) dX3_shownFileSize_8 ⟨(Nat.le_of_ble_eq_true rfl), (Nat.le_of_ble_eq_true rfl)⟩ ⟨(Nat.le_of_ble_eq_true rfl), (Nat.le_of_ble_eq_true rfl)⟩ rfl (fun H locs hW hS => ?_)
  refine mt_cV1 (As := [.int (c_X3_layerShown lc mc bc N G x), .int (c_X3_restAt lc mc bc N G x)]) (rest := []) S pv_X3_fileSizeIn mw_ml_X3_198 (k_X3_fileSizeIn l hlt g z ad lc mc bc N G o d h6 h8 hb6 (c_X3_layerShown lc mc bc N G x) (c_X3_restAt lc mc bc N G x)) hC hW hS wc_0 rfl rfl rfl hl.1 rfl (Nat.le_of_ble_eq_true rfl) dX3_shownFileSize_11 ⟨(Nat.le_of_ble_eq_true rfl), (Nat.le_of_ble_eq_true rfl)⟩ ⟨(Nat.le_of_ble_eq_true rfl), (Nat.le_of_ble_eq_true rfl)⟩ rfl (fun H locs hW hS => ?_)
  exact mt_ri S hr hk hW hS (by rw [c_X3_shownFileSize]) (Nat.le_of_ble_eq_true rfl) (Nat.le_of_ble_eq_true rfl) dX3_shownFileSize_14
def c_X3_mayLead (lc mc bc : Nat) (N G : Nat → Nat → Int32) (x : Int32) (y : Int32) : Int32 := ocase (c_X3_mountThere lc mc bc N G (c_X3_serverAt lc mc bc N G x)) 0 (fun i_2 => if (N (150 + i_2) 4) = 0 then (if (c_X3_serverAt lc mc bc N G x) = (c_X3_serverAt lc mc bc N G y) then 1 else 0) else 1)
set_option maxRecDepth 100000 in
set_option maxHeartbeats 4000000 in
theorem k_X3_mayLead (l : Launch) (hlt : l.stackTraces = false) (g : mt_G) (z : Nat) (ad : Nat → Nat) (lc mc bc : Nat) (N G : Nat → Nat → Int32) (o : Nat → Int64) (d : mt_D) (h6 : lc ≤ 6) (h8 : mc ≤ 8) (hb6 : bc ≤ 6) (x : Int32) (y : Int32)  : mt_K l g z yX3_mayLead cX3_mayLead 4 (some .boolean) 2 41 0 0 [.ref (ad (0)), .int x, .int y] (mt_wc g ad lc mc bc N G o d) ad (.inr (some (.int (c_X3_mayLead lc mc bc N G x y)))) (mt_wc g ad lc mc bc N G o d) ad := by
  refine mt_ofW (by decide +kernel) (Nat.le_of_ble_eq_true rfl) ?_
  intro p e s m args below meth c S hr9 hk hnm hout hC hW hS ls hl
  have hr := hr9
  have hx := S.1
  have hb := S.2.1
  have hl : lv_has ls 4 [(0, .ref (ad (0))), (1, .int (x)), (2, .int (y))] := hl
  refine lv_aload_n hx hb dX3_mayLead_0 rfl (lv_at hl 0 rfl) ?_
  refine lv_aload_n hx hb dX3_mayLead_1 rfl (lv_at hl 0 rfl) ?_
  refine lv_iload_n hx hb dX3_mayLead_2 rfl (lv_at hl 1 rfl) ?_
  refine mt_cV1 (As := [.int (x)]) (rest := [.ref (ad (0))]) S pv_X3_serverAt mw_ml_X3_113 (k_X3_serverAt l hlt g z ad lc mc bc N G o d h6 h8 hb6 x) hC hW hS wc_0 rfl rfl rfl hl.1 rfl (Nat.le_of_ble_eq_true rfl) dX3_mayLead_3 ⟨(Nat.le_of_ble_eq_true rfl), (Nat.le_of_ble_eq_true rfl)⟩ ⟨(Nat.le_of_ble_eq_true rfl), (Nat.le_of_ble_eq_true rfl)⟩ rfl (fun H locs hW hS => ?_)
  rcases hq_1 : (c_X3_mountThere lc mc bc N G (c_X3_serverAt lc mc bc N G x)) with _ | i_2
  · refine mt_cV1 (v := .null) (As := [.int (c_X3_serverAt lc mc bc N G x)]) (rest := []) S pv_X3_mountThere mw_ml_X3_101 (k_X3_mountThere l hlt g z ad lc mc bc N G o d h6 h8 hb6 (c_X3_serverAt lc mc bc N G x)) hC hW hS wc_0 rfl rfl rfl hl.1 rfl (Nat.le_of_ble_eq_true rfl) dX3_mayLead_6 ⟨(Nat.le_of_ble_eq_true rfl), (Nat.le_of_ble_eq_true rfl)⟩ ⟨(Nat.le_of_ble_eq_true rfl), (Nat.le_of_ble_eq_true rfl)⟩ (congrArg (a₂ := none) (xr_a ad 150) hq_1) (fun H locs hW hS => ?_)
    refine lv_astore_nN (lv' := [(3, .null), (0, .ref (ad (0))), (1, .int (x)), (2, .int (y))]) hx hb dX3_mayLead_9 rfl hl (by decide) rfl (fun ls hl => ?_)
    refine lv_aload_nN hx hb dX3_mayLead_10 rfl (lv_at hl 0 rfl) ?_
    refine lv_ifnullN (tgt := 38) hx hb dX3_mayLead_11 (by decide) ?_
    refine lv_iconst (v := 0) hx hb dX3_mayLead_38 (by decide) ?_
    exact mt_rz S hr hk rfl hW hS (by rw [c_X3_mayLead, ocase_n hq_1]) (Nat.le_of_ble_eq_true rfl) (Nat.le_of_ble_eq_true rfl) dX3_mayLead_39
  · refine mt_cV1 (v := .ref (ad (150 + i_2))) (As := [.int (c_X3_serverAt lc mc bc N G x)]) (rest := []) S pv_X3_mountThere mw_ml_X3_101 (k_X3_mountThere l hlt g z ad lc mc bc N G o d h6 h8 hb6 (c_X3_serverAt lc mc bc N G x)) hC hW hS wc_0 rfl rfl rfl hl.1 rfl (Nat.le_of_ble_eq_true rfl) dX3_mayLead_6 ⟨(Nat.le_of_ble_eq_true rfl), (Nat.le_of_ble_eq_true rfl)⟩ ⟨(Nat.le_of_ble_eq_true rfl), (Nat.le_of_ble_eq_true rfl)⟩ (congrArg (a₂ := some i_2) (xr_a ad 150) hq_1) (fun H locs hW hS => ?_)
    have hi_i_2 := c_mountThere_lt hq_1
    refine lv_astore_n (lv' := [(3, .ref (ad (150 + i_2))), (0, .ref (ad (0))), (1, .int (x)), (2, .int (y))]) hx hb dX3_mayLead_9 rfl hl (by decide) rfl (fun ls hl => ?_)
    refine lv_aload_n hx hb dX3_mayLead_10 rfl (lv_at hl 0 rfl) ?_
    refine lv_ifnull hx hb dX3_mayLead_11 ?_
    refine lv_aload_n hx hb dX3_mayLead_14 rfl (lv_at hl 0 rfl) ?_
    refine mt_getN S iw_X2 hC hW (wc_mnt h8 hi_i_2) rfl 4 (by decide) mw_fn_X3_110 rfl rfl dX3_mayLead_15 ?_
    refine lv_if_ne (tgt := 34) hx hb dX3_mayLead_18 (by decide) (fun c_3 => ?_) (fun c_3 => ?_)
    · refine lv_iconst (v := 1) hx hb dX3_mayLead_34 (by decide) ?_
      refine lv_goto (tgt := 39) hx hb dX3_mayLead_35 (by decide) ?_
      exact mt_rz S hr hk rfl hW hS (by rw [c_X3_mayLead, ocase_s hq_1, if_neg c_3]) (Nat.le_of_ble_eq_true rfl) (Nat.le_of_ble_eq_true rfl) dX3_mayLead_39
    · refine lv_aload_n hx hb dX3_mayLead_21 rfl (lv_at hl 1 rfl) ?_
      refine lv_iload_n hx hb dX3_mayLead_22 rfl (lv_at hl 2 rfl) ?_
      refine mt_cV1 (As := [.int (x)]) (rest := []) S pv_X3_serverAt mw_ml_X3_113 (k_X3_serverAt l hlt g z ad lc mc bc N G o d h6 h8 hb6 x) hC hW hS wc_0 rfl rfl rfl hl.1 rfl (Nat.le_of_ble_eq_true rfl) dX3_mayLead_23 ⟨(Nat.le_of_ble_eq_true rfl), (Nat.le_of_ble_eq_true rfl)⟩ ⟨(Nat.le_of_ble_eq_true rfl), (Nat.le_of_ble_eq_true rfl)⟩ rfl (fun H locs hW hS => ?_)
      refine lv_aload_n hx hb dX3_mayLead_26 rfl (lv_at hl 1 rfl) ?_
      refine lv_iload_n hx hb dX3_mayLead_27 rfl (lv_at hl 3 rfl) ?_
      refine mt_cV1 (As := [.int (y)]) (rest := [.int (c_X3_serverAt lc mc bc N G x)]) S pv_X3_serverAt mw_ml_X3_113 (k_X3_serverAt l hlt g z ad lc mc bc N G o d h6 h8 hb6 y) hC hW hS wc_0 rfl rfl rfl hl.1 rfl (Nat.le_of_ble_eq_true rfl) dX3_mayLead_28 ⟨(Nat.le_of_ble_eq_true rfl), (Nat.le_of_ble_eq_true rfl)⟩ ⟨(Nat.le_of_ble_eq_true rfl), (Nat.le_of_ble_eq_true rfl)⟩ rfl (fun H locs hW hS => ?_)
      refine lv_icmp_ne (tgt := 38) hx hb dX3_mayLead_31 (by decide) (fun c_4 => ?_) (fun c_4 => ?_)
      · refine lv_iconst (v := 0) hx hb dX3_mayLead_38 (by decide) ?_
        exact mt_rz S hr hk rfl hW hS (by rw [c_X3_mayLead, ocase_s hq_1, if_pos c_3, if_neg c_4]) (Nat.le_of_ble_eq_true rfl) (Nat.le_of_ble_eq_true rfl) dX3_mayLead_39
      · refine lv_iconst (v := 1) hx hb dX3_mayLead_34 (by decide) ?_
        refine lv_goto (tgt := 39) hx hb dX3_mayLead_35 (by decide) ?_
        exact mt_rz S hr hk rfl hW hS (by rw [c_X3_mayLead, ocase_s hq_1, if_pos c_3, if_pos c_4]) (Nat.le_of_ble_eq_true rfl) (Nat.le_of_ble_eq_true rfl) dX3_mayLead_39
def c_X3_layerToWrite (lc mc bc : Nat) (N G : Nat → Nat → Int32) (x : Int32) : String ⊕ Nat := ocase (c_X3_mountThere lc mc bc N G (c_X3_serverAt lc mc bc N G x)) (.inl "java/util/NoSuchElementException") (fun i_2 => ocase (c_X3_layerAt lc mc bc N G (c_X2_written lc mc bc N G i_2)) (.inl "java/util/NoSuchElementException") (fun i_4 => if (c_X3_restAt lc mc bc N G x) = 0 then (.inl "java/util/NoSuchElementException") else (.inr i_4)))
set_option maxRecDepth 100000 in
set_option maxHeartbeats 4000000 in
theorem k_X3_layerToWrite (l : Launch) (hlt : l.stackTraces = false) (g : mt_G) (z : Nat) (ad : Nat → Nat) (lc mc bc : Nat) (N G : Nat → Nat → Int32) (o : Nat → Int64) (d : mt_D) (h6 : lc ≤ 6) (h8 : mc ≤ 8) (hb6 : bc ≤ 6) (x : Int32)  : mt_K l g z yX3_layerToWrite cX3_layerToWrite 4 (some (.object "MountTable$Layer")) 6 82 1 6 [.ref (ad (0)), .int x] (mt_wc g ad lc mc bc N G o d) ad (xr_n ad 100 (c_X3_layerToWrite lc mc bc N G x)) (mt_wc g ad lc mc bc N G o d) ad := by
  refine mt_ofW (by decide +kernel) (Nat.le_of_ble_eq_true rfl) ?_
  intro p e s m args below meth c S hr9 hk hnm hout hC hW hS ls hl
  have hr := hr9
  have hx := S.1
  have hb := S.2.1
  have hl : lv_has ls 4 [(0, .ref (ad (0))), (1, .int (x))] := hl
  refine lv_aload_n hx hb dX3_layerToWrite_0 rfl (lv_at hl 0 rfl) ?_
  refine lv_aload_n hx hb dX3_layerToWrite_1 rfl (lv_at hl 0 rfl) ?_
  refine lv_iload_n hx hb dX3_layerToWrite_2 rfl (lv_at hl 1 rfl) ?_
  refine mt_cV1 (As := [.int (x)]) (rest := [.ref (ad (0))]) S pv_X3_serverAt mw_ml_X3_113 (k_X3_serverAt l hlt g z ad lc mc bc N G o d h6 h8 hb6 x) hC hW hS wc_0 rfl rfl rfl hl.1 rfl (Nat.le_of_ble_eq_true rfl) dX3_layerToWrite_3 ⟨(Nat.le_of_ble_eq_true rfl), (Nat.le_of_ble_eq_true rfl)⟩ ⟨(Nat.le_of_ble_eq_true rfl), (Nat.le_of_ble_eq_true rfl)⟩ rfl (fun H locs hW hS => ?_)
  rcases hq_1 : (c_X3_mountThere lc mc bc N G (c_X3_serverAt lc mc bc N G x)) with _ | i_2
  · refine mt_cV1 (v := .null) (As := [.int (c_X3_serverAt lc mc bc N G x)]) (rest := []) S pv_X3_mountThere mw_ml_X3_101 (k_X3_mountThere l hlt g z ad lc mc bc N G o d h6 h8 hb6 (c_X3_serverAt lc mc bc N G x)) hC hW hS wc_0 rfl rfl rfl hl.1 rfl (Nat.le_of_ble_eq_true rfl) dX3_layerToWrite_6 ⟨(Nat.le_of_ble_eq_true rfl), (Nat.le_of_ble_eq_true rfl)⟩ ⟨(Nat.le_of_ble_eq_true rfl), (Nat.le_of_ble_eq_true rfl)⟩ (congrArg (a₂ := none) (xr_a ad 150) hq_1) (fun H locs hW hS => ?_)
    refine lv_astore_nN (lv' := [(2, .null), (0, .ref (ad (0))), (1, .int (x))]) hx hb dX3_layerToWrite_9 rfl hl (by decide) rfl (fun ls hl => ?_)
    refine lv_aload_nN hx hb dX3_layerToWrite_10 rfl (lv_at hl 0 rfl) ?_
    refine lv_ifnonnullN hx hb dX3_layerToWrite_11 ?_
    refine lv_null hx hb dX3_layerToWrite_14 ?_
    refine lv_goto (tgt := 26) hx hb dX3_layerToWrite_15 (by decide) ?_
    refine lv_astore_nN (lv' := [(3, .null), (2, .null), (0, .ref (ad (0))), (1, .int (x))]) hx hb dX3_layerToWrite_26 rfl hl (by decide) rfl (fun ls hl => ?_)
    refine lv_aload_nN hx hb dX3_layerToWrite_27 rfl (lv_at hl 0 rfl) ?_
    refine lv_ifnullN (tgt := 39) hx hb dX3_layerToWrite_28 (by decide) ?_
    exact mt_throwW S hlt mp_NSE (List.mem_of_getElem? (i := 10) rfl) hC hW hS hl.1 hout hk (congrArg (a₂ := .inl "java/util/NoSuchElementException") (xr_n ad 100) (by rw [c_X3_layerToWrite, ocase_n hq_1])) dX3_layerToWrite_39 dX3_layerToWrite_42 dX3_layerToWrite_43 dX3_layerToWrite_46 dX3_layerToWrite_49 (Nat.le_of_ble_eq_true rfl) (Nat.le_of_ble_eq_true rfl) ⟨(Nat.le_of_ble_eq_true rfl), (Nat.le_of_ble_eq_true rfl)⟩ (Nat.le_of_ble_eq_true rfl) (Nat.le_of_ble_eq_true rfl)
  · refine mt_cV1 (v := .ref (ad (150 + i_2))) (As := [.int (c_X3_serverAt lc mc bc N G x)]) (rest := []) S pv_X3_mountThere mw_ml_X3_101 (k_X3_mountThere l hlt g z ad lc mc bc N G o d h6 h8 hb6 (c_X3_serverAt lc mc bc N G x)) hC hW hS wc_0 rfl rfl rfl hl.1 rfl (Nat.le_of_ble_eq_true rfl) dX3_layerToWrite_6 ⟨(Nat.le_of_ble_eq_true rfl), (Nat.le_of_ble_eq_true rfl)⟩ ⟨(Nat.le_of_ble_eq_true rfl), (Nat.le_of_ble_eq_true rfl)⟩ (congrArg (a₂ := some i_2) (xr_a ad 150) hq_1) (fun H locs hW hS => ?_)
    have hi_i_2 := c_mountThere_lt hq_1
    refine lv_astore_n (lv' := [(2, .ref (ad (150 + i_2))), (0, .ref (ad (0))), (1, .int (x))]) hx hb dX3_layerToWrite_9 rfl hl (by decide) rfl (fun ls hl => ?_)
    refine lv_aload_n hx hb dX3_layerToWrite_10 rfl (lv_at hl 0 rfl) ?_
    refine lv_ifnonnull (tgt := 18) hx hb dX3_layerToWrite_11 (by decide) ?_
    refine lv_aload_n hx hb dX3_layerToWrite_18 rfl (lv_at hl 1 rfl) ?_
    refine lv_aload_n hx hb dX3_layerToWrite_19 rfl (lv_at hl 0 rfl) ?_
    refine mt_cV1 (As := []) (rest := [.ref (ad (0))]) S pv_X2_written mw_ml_X3_170 (k_X2_written l hlt g z ad lc mc bc N G o d h6 h8 hb6 i_2 hi_i_2) hC hW hS (wc_mnt h8 hi_i_2) rfl rfl rfl hl.1 rfl (Nat.le_of_ble_eq_true rfl) dX3_layerToWrite_20 ⟨(Nat.le_of_ble_eq_true rfl), (Nat.le_of_ble_eq_true rfl)⟩ ⟨(Nat.le_of_ble_eq_true rfl), (Nat.le_of_ble_eq_true rfl)⟩ rfl (fun H locs hW hS => ?_)
    rcases hq_3 : (c_X3_layerAt lc mc bc N G (c_X2_written lc mc bc N G i_2)) with _ | i_4
    · refine mt_cV1 (v := .null) (As := [.int (c_X2_written lc mc bc N G i_2)]) (rest := []) S pv_X3_layerAt mw_ml_X3_61 (k_X3_layerAt l hlt g z ad lc mc bc N G o d h6 h8 hb6 (c_X2_written lc mc bc N G i_2)) hC hW hS wc_0 rfl rfl rfl hl.1 rfl (Nat.le_of_ble_eq_true rfl) dX3_layerToWrite_23 ⟨(Nat.le_of_ble_eq_true rfl), (Nat.le_of_ble_eq_true rfl)⟩ ⟨(Nat.le_of_ble_eq_true rfl), (Nat.le_of_ble_eq_true rfl)⟩ (congrArg (a₂ := none) (xr_a ad 100) hq_3) (fun H locs hW hS => ?_)
      refine lv_astore_nN (lv' := [(3, .null), (2, .ref (ad (150 + i_2))), (0, .ref (ad (0))), (1, .int (x))]) hx hb dX3_layerToWrite_26 rfl hl (by decide) rfl (fun ls hl => ?_)
      refine lv_aload_nN hx hb dX3_layerToWrite_27 rfl (lv_at hl 0 rfl) ?_
      refine lv_ifnullN (tgt := 39) hx hb dX3_layerToWrite_28 (by decide) ?_
      exact mt_throwW S hlt mp_NSE (List.mem_of_getElem? (i := 10) rfl) hC hW hS hl.1 hout hk (congrArg (a₂ := .inl "java/util/NoSuchElementException") (xr_n ad 100) (by rw [c_X3_layerToWrite, ocase_s hq_1, ocase_n hq_3])) dX3_layerToWrite_39 dX3_layerToWrite_42 dX3_layerToWrite_43 dX3_layerToWrite_46 dX3_layerToWrite_49 (Nat.le_of_ble_eq_true rfl) (Nat.le_of_ble_eq_true rfl) ⟨(Nat.le_of_ble_eq_true rfl), (Nat.le_of_ble_eq_true rfl)⟩ (Nat.le_of_ble_eq_true rfl) (Nat.le_of_ble_eq_true rfl)
    · refine mt_cV1 (v := .ref (ad (100 + i_4))) (As := [.int (c_X2_written lc mc bc N G i_2)]) (rest := []) S pv_X3_layerAt mw_ml_X3_61 (k_X3_layerAt l hlt g z ad lc mc bc N G o d h6 h8 hb6 (c_X2_written lc mc bc N G i_2)) hC hW hS wc_0 rfl rfl rfl hl.1 rfl (Nat.le_of_ble_eq_true rfl) dX3_layerToWrite_23 ⟨(Nat.le_of_ble_eq_true rfl), (Nat.le_of_ble_eq_true rfl)⟩ ⟨(Nat.le_of_ble_eq_true rfl), (Nat.le_of_ble_eq_true rfl)⟩ (congrArg (a₂ := some i_4) (xr_a ad 100) hq_3) (fun H locs hW hS => ?_)
      have hi_i_4 := c_layerAt_lt hq_3
      refine lv_astore_n (lv' := [(3, .ref (ad (100 + i_4))), (2, .ref (ad (150 + i_2))), (0, .ref (ad (0))), (1, .int (x))]) hx hb dX3_layerToWrite_26 rfl hl (by decide) rfl (fun ls hl => ?_)
      refine lv_aload_n hx hb dX3_layerToWrite_27 rfl (lv_at hl 0 rfl) ?_
      refine lv_ifnull hx hb dX3_layerToWrite_28 ?_
      refine lv_aload_n hx hb dX3_layerToWrite_31 rfl (lv_at hl 2 rfl) ?_
      refine lv_iload_n hx hb dX3_layerToWrite_32 rfl (lv_at hl 3 rfl) ?_
      refine mt_cV1 (As := [.int (x)]) (rest := []) S pv_X3_restAt mw_ml_X3_133 (k_X3_restAt l hlt g z ad lc mc bc N G o d h6 h8 hb6 x) hC hW hS wc_0 rfl rfl rfl hl.1 rfl (Nat.le_of_ble_eq_true rfl) dX3_layerToWrite_33 ⟨(Nat.le_of_ble_eq_true rfl), (Nat.le_of_ble_eq_true rfl)⟩ ⟨(Nat.le_of_ble_eq_true rfl), (Nat.le_of_ble_eq_true rfl)⟩ rfl (fun H locs hW hS => ?_)
      refine lv_if_ne (tgt := 50) hx hb dX3_layerToWrite_36 (by decide) (fun c_5 => ?_) (fun c_5 => ?_)
      · refine lv_aload_n hx hb dX3_layerToWrite_50 rfl (lv_at hl 0 rfl) ?_
        exact mt_ra S hr hk (Or.inr ⟨_, rfl⟩) hW hS (congrArg (a₂ := .inr i_4) (xr_n ad 100) (by rw [c_X3_layerToWrite, ocase_s hq_1, ocase_s hq_3, if_neg c_5])) (Nat.le_of_ble_eq_true rfl) (Nat.le_of_ble_eq_true rfl) dX3_layerToWrite_51
      · exact mt_throwW S hlt mp_NSE (List.mem_of_getElem? (i := 10) rfl) hC hW hS hl.1 hout hk (congrArg (a₂ := .inl "java/util/NoSuchElementException") (xr_n ad 100) (by rw [c_X3_layerToWrite, ocase_s hq_1, ocase_s hq_3, if_pos c_5])) dX3_layerToWrite_39 dX3_layerToWrite_42 dX3_layerToWrite_43 dX3_layerToWrite_46 dX3_layerToWrite_49 (Nat.le_of_ble_eq_true rfl) (Nat.le_of_ble_eq_true rfl) ⟨(Nat.le_of_ble_eq_true rfl), (Nat.le_of_ble_eq_true rfl)⟩ (Nat.le_of_ble_eq_true rfl) (Nat.le_of_ble_eq_true rfl)
theorem c_layerToWrite_lt {lc mc bc : Nat} {N G : Nat → Nat → Int32} {x : Int32} {i : Nat} (h : c_X3_layerToWrite lc mc bc N G x = .inr i) : i < lc := by
  unfold c_X3_layerToWrite at h
  cases hq : c_X3_mountThere lc mc bc N G (c_X3_serverAt lc mc bc N G x) with
  | none => rw [ocase_n hq] at h; cases h
  | some j =>
    rw [ocase_s hq] at h
    cases hq2 : c_X3_layerAt lc mc bc N G (c_X2_written lc mc bc N G j) with
    | none => rw [ocase_n hq2] at h; cases h
    | some k =>
      rw [ocase_s hq2] at h
      split at h
      · cases h
      · cases h; exact c_layerAt_lt hq2
def c_X3_change_G (lc mc bc : Nat) (N G : Nat → Nat → Int32) (r : Option Nat) (x : Int32) (k : Int32) (w : Int32) (v : Int32) : Nat → Nat → Int32 := ocase r G (fun j => c_X3_use_G lc mc bc N (c_X1_put_G lc mc bc N (c_X3_use_G lc mc bc N G (c_X1_ownerAt lc mc bc N G j x) (-(c_X1_bytesAt lc mc bc N G j x))) j x k w v) w (c_X1_bytesAt lc mc bc N (c_X1_put_G lc mc bc N (c_X3_use_G lc mc bc N G (c_X1_ownerAt lc mc bc N G j x) (-(c_X1_bytesAt lc mc bc N G j x))) j x k w v) j x))
set_option maxRecDepth 100000 in
set_option maxHeartbeats 4000000 in
theorem k_X3_change (l : Launch) (hlt : l.stackTraces = false) (g : mt_G) (z : Nat) (ad : Nat → Nat) (lc mc bc : Nat) (N G : Nat → Nat → Int32) (o : Nat → Int64) (d : mt_D) (h6 : lc ≤ 6) (h8 : mc ≤ 8) (hb6 : bc ≤ 6) (r : Option Nat) (x : Int32) (k : Int32) (w : Int32) (v : Int32) (hr : ∀ i, r = some i → i < lc) : mt_K l g z yX3_change cX3_change 6 none 2 44 0 0 [.ref (ad (0)), va_rf (r.map (fun i => ad (100 + i))), .int x, .int k, .int w, .int v] (mt_wc g ad lc mc bc N G o d) ad (.inr none) (mt_wc g ad lc mc bc N (c_X3_change_G lc mc bc N G r x k w v) o d) ad := by
  cases r with
  | none =>
    refine mt_ofW (by decide +kernel) (Nat.le_of_ble_eq_true rfl) ?_
    intro p e s m args below meth c S hr9 hk hnm hout hC hW hS ls hl
    have hr := hr9
    have hx := S.1
    have hb := S.2.1
    have hl : lv_has ls 6 [(0, .ref (ad (0))), (1, .null), (2, .int (x)), (3, .int (k)), (4, .int (w)), (5, .int (v))] := hl
    refine lv_aload_nN hx hb dX3_change_0 rfl (lv_at hl 1 rfl) ?_
    refine lv_ifnullN (tgt := 40) hx hb dX3_change_1 (by decide) ?_
    have hW := hW.to (w1 := mt_wc g ad lc mc bc N (c_X3_change_G lc mc bc N G none x k w v) o d) (by rw [c_X3_change_G, ocase_n rfl])
    exact mt_rv S hr hk hW hS rfl (Nat.le_of_ble_eq_true rfl) (Nat.le_of_ble_eq_true rfl) dX3_change_40
  | some j =>
    have hj := hr j rfl
    refine mt_ofW (by decide +kernel) (Nat.le_of_ble_eq_true rfl) ?_
    intro p e s m args below meth c S hr9 hk hnm hout hC hW hS ls hl
    have hr := hr9
    have hx := S.1
    have hb := S.2.1
    have hl : lv_has ls 6 [(0, .ref (ad (0))), (1, .ref (ad (100 + j))), (2, .int (x)), (3, .int (k)), (4, .int (w)), (5, .int (v))] := hl
    refine lv_aload_n hx hb dX3_change_0 rfl (lv_at hl 1 rfl) ?_
    refine lv_ifnull hx hb dX3_change_1 ?_
    refine lv_aload_n hx hb dX3_change_4 rfl (lv_at hl 0 rfl) ?_
    refine lv_aload_n hx hb dX3_change_5 rfl (lv_at hl 1 rfl) ?_
    refine lv_iload_n hx hb dX3_change_6 rfl (lv_at hl 2 rfl) ?_
    refine mt_cV1 (As := [.int (x)]) (rest := [.ref (ad (0))]) S pv_X1_ownerAt mw_ml_X3_201 (k_X1_ownerAt l hlt g z ad lc mc bc N G o d h6 h8 hb6 j x hj) hC hW hS (wc_lay h6 hj) rfl rfl rfl hl.1 rfl (Nat.le_of_ble_eq_true rfl) dX3_change_7 ⟨(Nat.le_of_ble_eq_true rfl), (Nat.le_of_ble_eq_true rfl)⟩ ⟨(Nat.le_of_ble_eq_true rfl), (Nat.le_of_ble_eq_true rfl)⟩ rfl (fun H locs hW hS => ?_)
    refine lv_aload_n hx hb dX3_change_10 rfl (lv_at hl 1 rfl) ?_
    refine lv_iload_n hx hb dX3_change_11 rfl (lv_at hl 2 rfl) ?_
    refine mt_cV1 (As := [.int (x)]) (rest := [.int (c_X1_ownerAt lc mc bc N G j x), .ref (ad (0))]) S pv_X1_bytesAt mw_ml_X3_155 (k_X1_bytesAt l hlt g z ad lc mc bc N G o d h6 h8 hb6 j x hj) hC hW hS (wc_lay h6 hj) rfl rfl rfl hl.1 rfl (Nat.le_of_ble_eq_true rfl) dX3_change_12 ⟨(Nat.le_of_ble_eq_true rfl), (Nat.le_of_ble_eq_true rfl)⟩ ⟨(Nat.le_of_ble_eq_true rfl), (Nat.le_of_ble_eq_true rfl)⟩ rfl (fun H locs hW hS => ?_)
    refine lv_ineg hx hb dX3_change_15 ?_
    refine mt_cVv (As := [.int (c_X1_ownerAt lc mc bc N G j x), .int (-(c_X1_bytesAt lc mc bc N G j x))]) (rest := []) S pv_X3_use mw_ml_X3_300 (k_X3_use l hlt g z ad lc mc bc N G o d h6 h8 hb6 (c_X1_ownerAt lc mc bc N G j x) (-(c_X1_bytesAt lc mc bc N G j x))) hC hW hS wc_0 rfl rfl rfl hl.1 rfl (Nat.le_of_ble_eq_true rfl) dX3_change_16 ⟨(Nat.le_of_ble_eq_true rfl), (Nat.le_of_ble_eq_true rfl)⟩ ⟨(Nat.le_of_ble_eq_true rfl), (Nat.le_of_ble_eq_true rfl)⟩ rfl (fun H locs hW hS => ?_)
    refine lv_aload_n hx hb dX3_change_19 rfl (lv_at hl 1 rfl) ?_
    refine lv_iload_n hx hb dX3_change_20 rfl (lv_at hl 2 rfl) ?_
    refine lv_iload_n hx hb dX3_change_21 rfl (lv_at hl 3 rfl) ?_
    refine lv_iload hx hb dX3_change_22 (lv_at hl 4 rfl) ?_
    refine lv_iload hx hb dX3_change_24 (lv_at hl 5 rfl) ?_
    refine mt_cVv (As := [.int (x), .int (k), .int (w), .int (v)]) (rest := []) S pv_X1_put mw_ml_X3_303 (k_X1_put l hlt g z ad lc mc bc N (c_X3_use_G lc mc bc N G (c_X1_ownerAt lc mc bc N G j x) (-(c_X1_bytesAt lc mc bc N G j x))) o d h6 h8 hb6 j x k w v hj) hC hW hS (wc_lay h6 hj) rfl rfl rfl hl.1 rfl (Nat.le_of_ble_eq_true rfl) dX3_change_26 ⟨(Nat.le_of_ble_eq_true rfl), (Nat.le_of_ble_eq_true rfl)⟩ ⟨(Nat.le_of_ble_eq_true rfl), (Nat.le_of_ble_eq_true rfl)⟩ rfl (fun H locs hW hS => ?_)
    refine lv_aload_n hx hb dX3_change_29 rfl (lv_at hl 0 rfl) ?_
    refine lv_iload hx hb dX3_change_30 (lv_at hl 4 rfl) ?_
    refine lv_aload_n hx hb dX3_change_32 rfl (lv_at hl 1 rfl) ?_
    refine lv_iload_n hx hb dX3_change_33 rfl (lv_at hl 2 rfl) ?_
    refine mt_cV1 (As := [.int (x)]) (rest := [.int (w), .ref (ad (0))]) S pv_X1_bytesAt mw_ml_X3_155 (k_X1_bytesAt l hlt g z ad lc mc bc N (c_X1_put_G lc mc bc N (c_X3_use_G lc mc bc N G (c_X1_ownerAt lc mc bc N G j x) (-(c_X1_bytesAt lc mc bc N G j x))) j x k w v) o d h6 h8 hb6 j x hj) hC hW hS (wc_lay h6 hj) rfl rfl rfl hl.1 rfl (Nat.le_of_ble_eq_true rfl) dX3_change_34 ⟨(Nat.le_of_ble_eq_true rfl), (Nat.le_of_ble_eq_true rfl)⟩ ⟨(Nat.le_of_ble_eq_true rfl), (Nat.le_of_ble_eq_true rfl)⟩ rfl (fun H locs hW hS => ?_)
    refine mt_cVv (As := [.int (w), .int (c_X1_bytesAt lc mc bc N (c_X1_put_G lc mc bc N (c_X3_use_G lc mc bc N G (c_X1_ownerAt lc mc bc N G j x) (-(c_X1_bytesAt lc mc bc N G j x))) j x k w v) j x)]) (rest := []) S pv_X3_use mw_ml_X3_300 (k_X3_use l hlt g z ad lc mc bc N (c_X1_put_G lc mc bc N (c_X3_use_G lc mc bc N G (c_X1_ownerAt lc mc bc N G j x) (-(c_X1_bytesAt lc mc bc N G j x))) j x k w v) o d h6 h8 hb6 w (c_X1_bytesAt lc mc bc N (c_X1_put_G lc mc bc N (c_X3_use_G lc mc bc N G (c_X1_ownerAt lc mc bc N G j x) (-(c_X1_bytesAt lc mc bc N G j x))) j x k w v) j x)) hC hW hS wc_0 rfl rfl rfl hl.1 rfl (Nat.le_of_ble_eq_true rfl) dX3_change_37 ⟨(Nat.le_of_ble_eq_true rfl), (Nat.le_of_ble_eq_true rfl)⟩ ⟨(Nat.le_of_ble_eq_true rfl), (Nat.le_of_ble_eq_true rfl)⟩ rfl (fun H locs hW hS => ?_)
    have hW := hW.to (w1 := mt_wc g ad lc mc bc N (c_X3_change_G lc mc bc N G (some j) x k w v) o d) (by rw [c_X3_change_G, ocase_s rfl])
    exact mt_rv S hr hk hW hS rfl (Nat.le_of_ble_eq_true rfl) (Nat.le_of_ble_eq_true rfl) dX3_change_40
def c_X3_putAt_G (lc mc bc : Nat) (N G : Nat → Nat → Int32) (y : Int32) (i : Nat) (k : Int32) (w : Int32) (v : Int32) : Nat → Nat → Int32 := ocase (c_X3_mountThere lc mc bc N G (c_X3_serverAt lc mc bc N G y)) (c_X3_change_G lc mc bc N G (some i) (c_X3_restAt lc mc bc N G y) k w v) (fun i_2 => if (N (150 + i_2) 1) = (-1) then (c_X3_change_G lc mc bc N G (some i) (c_X3_restAt lc mc bc N G y) k w v) else (if (c_X3_layerShown lc mc bc N G y) = (N (150 + i_2) 0) then (c_X3_change_G lc mc bc (mt_gu N 0 10 ((N 0 10) + 1)) G (some i) (c_X3_restAt lc mc bc (mt_gu N 0 10 ((N 0 10) + 1)) G y) k w v) else (c_X3_change_G lc mc bc N G (some i) (c_X3_restAt lc mc bc N G y) k w v)))
def c_X3_putAt_N (lc mc bc : Nat) (N G : Nat → Nat → Int32) (y : Int32) (i : Nat) (k : Int32) (w : Int32) (v : Int32) : Nat → Nat → Int32 := ocase (c_X3_mountThere lc mc bc N G (c_X3_serverAt lc mc bc N G y)) N (fun i_2 => if (N (150 + i_2) 1) = (-1) then N else (if (c_X3_layerShown lc mc bc N G y) = (N (150 + i_2) 0) then (mt_gu N 0 10 ((N 0 10) + 1)) else N))
set_option maxRecDepth 100000 in
set_option maxHeartbeats 4000000 in
theorem k_X3_putAt (l : Launch) (hlt : l.stackTraces = false) (g : mt_G) (z : Nat) (ad : Nat → Nat) (lc mc bc : Nat) (N G : Nat → Nat → Int32) (o : Nat → Int64) (d : mt_D) (h6 : lc ≤ 6) (h8 : mc ≤ 8) (hb6 : bc ≤ 6) (y : Int32) (i : Nat) (k : Int32) (w : Int32) (v : Int32) (hi_i : i < lc) : mt_K l g z yX3_putAt cX3_putAt 7 none 4 88 0 0 [.ref (ad (0)), .int y, .ref (ad (100 + i)), .int k, .int w, .int v] (mt_wc g ad lc mc bc N G o d) ad (.inr none) (mt_wc g ad lc mc bc (c_X3_putAt_N lc mc bc N G y i k w v) (c_X3_putAt_G lc mc bc N G y i k w v) o d) ad := by
  refine mt_ofW (by decide +kernel) (Nat.le_of_ble_eq_true rfl) ?_
  intro p e s m args below meth c S hr9 hk hnm hout hC hW hS ls hl
  have hr := hr9
  have hx := S.1
  have hb := S.2.1
  have hl : lv_has ls 7 [(0, .ref (ad (0))), (1, .int (y)), (2, .ref (ad (100 + i))), (3, .int (k)), (4, .int (w)), (5, .int (v))] := hl
  refine lv_aload_n hx hb dX3_putAt_0 rfl (lv_at hl 0 rfl) ?_
  refine lv_aload_n hx hb dX3_putAt_1 rfl (lv_at hl 0 rfl) ?_
  refine lv_iload_n hx hb dX3_putAt_2 rfl (lv_at hl 1 rfl) ?_
  refine mt_cV1 (As := [.int (y)]) (rest := [.ref (ad (0))]) S pv_X3_serverAt mw_ml_X3_113 (k_X3_serverAt l hlt g z ad lc mc bc N G o d h6 h8 hb6 y) hC hW hS wc_0 rfl rfl rfl hl.1 rfl (Nat.le_of_ble_eq_true rfl) dX3_putAt_3 ⟨(Nat.le_of_ble_eq_true rfl), (Nat.le_of_ble_eq_true rfl)⟩ ⟨(Nat.le_of_ble_eq_true rfl), (Nat.le_of_ble_eq_true rfl)⟩ rfl (fun H locs hW hS => ?_)
  rcases hq_1 : (c_X3_mountThere lc mc bc N G (c_X3_serverAt lc mc bc N G y)) with _ | i_2
  · refine mt_cV1 (v := .null) (As := [.int (c_X3_serverAt lc mc bc N G y)]) (rest := []) S pv_X3_mountThere mw_ml_X3_101 (k_X3_mountThere l hlt g z ad lc mc bc N G o d h6 h8 hb6 (c_X3_serverAt lc mc bc N G y)) hC hW hS wc_0 rfl rfl rfl hl.1 rfl (Nat.le_of_ble_eq_true rfl) dX3_putAt_6 ⟨(Nat.le_of_ble_eq_true rfl), (Nat.le_of_ble_eq_true rfl)⟩ ⟨(Nat.le_of_ble_eq_true rfl), (Nat.le_of_ble_eq_true rfl)⟩ (congrArg (a₂ := none) (xr_a ad 150) hq_1) (fun H locs hW hS => ?_)
    refine lv_astoreN (lv' := [(6, .null), (0, .ref (ad (0))), (1, .int (y)), (2, .ref (ad (100 + i))), (3, .int (k)), (4, .int (w)), (5, .int (v))]) hx hb dX3_putAt_9 hl (by decide) rfl (fun ls hl => ?_)
    refine lv_aloadN hx hb dX3_putAt_11 (lv_at hl 0 rfl) ?_
    refine lv_ifnullN (tgt := 48) hx hb dX3_putAt_13 (by decide) ?_
    refine lv_aload_n hx hb dX3_putAt_48 rfl (lv_at hl 1 rfl) ?_
    refine lv_aload_n hx hb dX3_putAt_49 rfl (lv_at hl 3 rfl) ?_
    refine lv_aload_n hx hb dX3_putAt_50 rfl (lv_at hl 1 rfl) ?_
    refine lv_iload_n hx hb dX3_putAt_51 rfl (lv_at hl 2 rfl) ?_
    refine mt_cV1 (As := [.int (y)]) (rest := [.ref (ad (100 + i)), .ref (ad (0))]) S pv_X3_restAt mw_ml_X3_133 (k_X3_restAt l hlt g z ad lc mc bc N G o d h6 h8 hb6 y) hC hW hS wc_0 rfl rfl rfl hl.1 rfl (Nat.le_of_ble_eq_true rfl) dX3_putAt_52 ⟨(Nat.le_of_ble_eq_true rfl), (Nat.le_of_ble_eq_true rfl)⟩ ⟨(Nat.le_of_ble_eq_true rfl), (Nat.le_of_ble_eq_true rfl)⟩ rfl (fun H locs hW hS => ?_)
    refine lv_iload_n hx hb dX3_putAt_55 rfl (lv_at hl 4 rfl) ?_
    refine lv_iload hx hb dX3_putAt_56 (lv_at hl 5 rfl) ?_
    refine lv_iload hx hb dX3_putAt_58 (lv_at hl 6 rfl) ?_
    refine mt_cVv (As := [.ref (ad (100 + i)), .int (c_X3_restAt lc mc bc N G y), .int (k), .int (w), .int (v)]) (rest := []) S pv_X3_change mw_ml_X3_174 (k_X3_change l hlt g z ad lc mc bc N G o d h6 h8 hb6 (some i) (c_X3_restAt lc mc bc N G y) k w v (fun i e => by cases e; exact hi_i)) hC hW hS wc_0 rfl rfl rfl hl.1 rfl (Nat.le_of_ble_eq_true rfl) dX3_putAt_60 ⟨(Nat.le_of_ble_eq_true rfl), (Nat.le_of_ble_eq_true rfl)⟩ ⟨(Nat.le_of_ble_eq_true rfl), (Nat.le_of_ble_eq_true rfl)⟩ rfl (fun H locs hW hS => ?_)
    have hW := hW.to (w1 := mt_wc g ad lc mc bc (c_X3_putAt_N lc mc bc N G y i k w v) (c_X3_putAt_G lc mc bc N G y i k w v) o d) (by rw [c_X3_putAt_N, ocase_n hq_1, c_X3_putAt_G, ocase_n hq_1])
    exact mt_rv S hr hk hW hS rfl (Nat.le_of_ble_eq_true rfl) (Nat.le_of_ble_eq_true rfl) dX3_putAt_63
  · refine mt_cV1 (v := .ref (ad (150 + i_2))) (As := [.int (c_X3_serverAt lc mc bc N G y)]) (rest := []) S pv_X3_mountThere mw_ml_X3_101 (k_X3_mountThere l hlt g z ad lc mc bc N G o d h6 h8 hb6 (c_X3_serverAt lc mc bc N G y)) hC hW hS wc_0 rfl rfl rfl hl.1 rfl (Nat.le_of_ble_eq_true rfl) dX3_putAt_6 ⟨(Nat.le_of_ble_eq_true rfl), (Nat.le_of_ble_eq_true rfl)⟩ ⟨(Nat.le_of_ble_eq_true rfl), (Nat.le_of_ble_eq_true rfl)⟩ (congrArg (a₂ := some i_2) (xr_a ad 150) hq_1) (fun H locs hW hS => ?_)
    have hi_i_2 := c_mountThere_lt hq_1
    refine lv_astore (lv' := [(6, .ref (ad (150 + i_2))), (0, .ref (ad (0))), (1, .int (y)), (2, .ref (ad (100 + i))), (3, .int (k)), (4, .int (w)), (5, .int (v))]) hx hb dX3_putAt_9 hl (by decide) rfl (fun ls hl => ?_)
    refine lv_aload hx hb dX3_putAt_11 (lv_at hl 0 rfl) ?_
    refine lv_ifnull hx hb dX3_putAt_13 ?_
    refine lv_aload hx hb dX3_putAt_16 (lv_at hl 0 rfl) ?_
    refine mt_getN S iw_X2 hC hW (wc_mnt h8 hi_i_2) rfl 1 (by decide) mw_fn_X3_158 rfl rfl dX3_putAt_18 ?_
    refine lv_iconst (v := -1) hx hb dX3_putAt_21 (by decide) ?_
    refine lv_icmp_eq (tgt := 48) hx hb dX3_putAt_22 (by decide) (fun c_3 => ?_) (fun c_3 => ?_)
    · refine lv_aload_n hx hb dX3_putAt_48 rfl (lv_at hl 1 rfl) ?_
      refine lv_aload_n hx hb dX3_putAt_49 rfl (lv_at hl 3 rfl) ?_
      refine lv_aload_n hx hb dX3_putAt_50 rfl (lv_at hl 1 rfl) ?_
      refine lv_iload_n hx hb dX3_putAt_51 rfl (lv_at hl 2 rfl) ?_
      refine mt_cV1 (As := [.int (y)]) (rest := [.ref (ad (100 + i)), .ref (ad (0))]) S pv_X3_restAt mw_ml_X3_133 (k_X3_restAt l hlt g z ad lc mc bc N G o d h6 h8 hb6 y) hC hW hS wc_0 rfl rfl rfl hl.1 rfl (Nat.le_of_ble_eq_true rfl) dX3_putAt_52 ⟨(Nat.le_of_ble_eq_true rfl), (Nat.le_of_ble_eq_true rfl)⟩ ⟨(Nat.le_of_ble_eq_true rfl), (Nat.le_of_ble_eq_true rfl)⟩ rfl (fun H locs hW hS => ?_)
      refine lv_iload_n hx hb dX3_putAt_55 rfl (lv_at hl 4 rfl) ?_
      refine lv_iload hx hb dX3_putAt_56 (lv_at hl 5 rfl) ?_
      refine lv_iload hx hb dX3_putAt_58 (lv_at hl 6 rfl) ?_
      refine mt_cVv (As := [.ref (ad (100 + i)), .int (c_X3_restAt lc mc bc N G y), .int (k), .int (w), .int (v)]) (rest := []) S pv_X3_change mw_ml_X3_174 (k_X3_change l hlt g z ad lc mc bc N G o d h6 h8 hb6 (some i) (c_X3_restAt lc mc bc N G y) k w v (fun i e => by cases e; exact hi_i)) hC hW hS wc_0 rfl rfl rfl hl.1 rfl (Nat.le_of_ble_eq_true rfl) dX3_putAt_60 ⟨(Nat.le_of_ble_eq_true rfl), (Nat.le_of_ble_eq_true rfl)⟩ ⟨(Nat.le_of_ble_eq_true rfl), (Nat.le_of_ble_eq_true rfl)⟩ rfl (fun H locs hW hS => ?_)
      have hW := hW.to (w1 := mt_wc g ad lc mc bc (c_X3_putAt_N lc mc bc N G y i k w v) (c_X3_putAt_G lc mc bc N G y i k w v) o d) (by rw [c_X3_putAt_N, ocase_s hq_1, if_pos c_3, c_X3_putAt_G, ocase_s hq_1, if_pos c_3])
      exact mt_rv S hr hk hW hS rfl (Nat.le_of_ble_eq_true rfl) (Nat.le_of_ble_eq_true rfl) dX3_putAt_63
    · refine lv_aload_n hx hb dX3_putAt_25 rfl (lv_at hl 1 rfl) ?_
      refine lv_iload_n hx hb dX3_putAt_26 rfl (lv_at hl 2 rfl) ?_
      refine mt_cV1 (As := [.int (y)]) (rest := []) S pv_X3_layerShown mw_ml_X3_178 (k_X3_layerShown l hlt g z ad lc mc bc N G o d h6 h8 hb6 y) hC hW hS wc_0 rfl rfl rfl hl.1 rfl (Nat.le_of_ble_eq_true rfl) dX3_putAt_27 ⟨(Nat.le_of_ble_eq_true rfl), (Nat.le_of_ble_eq_true rfl)⟩ ⟨(Nat.le_of_ble_eq_true rfl), (Nat.le_of_ble_eq_true rfl)⟩ rfl (fun H locs hW hS => ?_)
      refine lv_aload hx hb dX3_putAt_30 (lv_at hl 0 rfl) ?_
      refine mt_getN S iw_X2 hC hW (wc_mnt h8 hi_i_2) rfl 0 (by decide) mw_fn_X3_161 rfl rfl dX3_putAt_32 ?_
      refine lv_icmp_ne (tgt := 48) hx hb dX3_putAt_35 (by decide) (fun c_4 => ?_) (fun c_4 => ?_)
      · refine lv_aload_n hx hb dX3_putAt_48 rfl (lv_at hl 1 rfl) ?_
        refine lv_aload_n hx hb dX3_putAt_49 rfl (lv_at hl 3 rfl) ?_
        refine lv_aload_n hx hb dX3_putAt_50 rfl (lv_at hl 1 rfl) ?_
        refine lv_iload_n hx hb dX3_putAt_51 rfl (lv_at hl 2 rfl) ?_
        refine mt_cV1 (As := [.int (y)]) (rest := [.ref (ad (100 + i)), .ref (ad (0))]) S pv_X3_restAt mw_ml_X3_133 (k_X3_restAt l hlt g z ad lc mc bc N G o d h6 h8 hb6 y) hC hW hS wc_0 rfl rfl rfl hl.1 rfl (Nat.le_of_ble_eq_true rfl) dX3_putAt_52 ⟨(Nat.le_of_ble_eq_true rfl), (Nat.le_of_ble_eq_true rfl)⟩ ⟨(Nat.le_of_ble_eq_true rfl), (Nat.le_of_ble_eq_true rfl)⟩ rfl (fun H locs hW hS => ?_)
        refine lv_iload_n hx hb dX3_putAt_55 rfl (lv_at hl 4 rfl) ?_
        refine lv_iload hx hb dX3_putAt_56 (lv_at hl 5 rfl) ?_
        refine lv_iload hx hb dX3_putAt_58 (lv_at hl 6 rfl) ?_
        refine mt_cVv (As := [.ref (ad (100 + i)), .int (c_X3_restAt lc mc bc N G y), .int (k), .int (w), .int (v)]) (rest := []) S pv_X3_change mw_ml_X3_174 (k_X3_change l hlt g z ad lc mc bc N G o d h6 h8 hb6 (some i) (c_X3_restAt lc mc bc N G y) k w v (fun i e => by cases e; exact hi_i)) hC hW hS wc_0 rfl rfl rfl hl.1 rfl (Nat.le_of_ble_eq_true rfl) dX3_putAt_60 ⟨(Nat.le_of_ble_eq_true rfl), (Nat.le_of_ble_eq_true rfl)⟩ ⟨(Nat.le_of_ble_eq_true rfl), (Nat.le_of_ble_eq_true rfl)⟩ rfl (fun H locs hW hS => ?_)
        have hW := hW.to (w1 := mt_wc g ad lc mc bc (c_X3_putAt_N lc mc bc N G y i k w v) (c_X3_putAt_G lc mc bc N G y i k w v) o d) (by rw [c_X3_putAt_N, ocase_s hq_1, if_neg c_3, if_neg c_4, c_X3_putAt_G, ocase_s hq_1, if_neg c_3, if_neg c_4])
        exact mt_rv S hr hk hW hS rfl (Nat.le_of_ble_eq_true rfl) (Nat.le_of_ble_eq_true rfl) dX3_putAt_63
      · refine lv_aload_n hx hb dX3_putAt_38 rfl (lv_at hl 1 rfl) ?_
        refine lv_dup hx hb dX3_putAt_39 rfl ?_
        refine mt_get S iw_X3 hC hW wc_0 rfl 10 (by decide) mw_fl_X3_219 rfl rfl dX3_putAt_40 ?_
        refine lv_iconst (v := 1) hx hb dX3_putAt_43 (by decide) ?_
        refine lv_iadd hx hb dX3_putAt_44 ?_
        refine mt_put S iw_X3 tyX3 tyX3_ok nmX3 hC hW hS wc_0 rfl 10 (by decide) mw_fl_X3_219 rfl rfl rfl rfl (Nat.le_of_ble_eq_true rfl) dX3_putAt_45 (fun H locs hW hS => ?_)
        have hW := hW.to wc_setc
        refine lv_aload_n hx hb dX3_putAt_48 rfl (lv_at hl 1 rfl) ?_
        refine lv_aload_n hx hb dX3_putAt_49 rfl (lv_at hl 3 rfl) ?_
        refine lv_aload_n hx hb dX3_putAt_50 rfl (lv_at hl 1 rfl) ?_
        refine lv_iload_n hx hb dX3_putAt_51 rfl (lv_at hl 2 rfl) ?_
        refine mt_cV1 (As := [.int (y)]) (rest := [.ref (ad (100 + i)), .ref (ad (0))]) S pv_X3_restAt mw_ml_X3_133 (k_X3_restAt l hlt g z ad lc mc bc (mt_gu N 0 10 ((N 0 10) + 1)) G o d h6 h8 hb6 y) hC hW hS wc_0 rfl rfl rfl hl.1 rfl (Nat.le_of_ble_eq_true rfl) dX3_putAt_52 ⟨(Nat.le_of_ble_eq_true rfl), (Nat.le_of_ble_eq_true rfl)⟩ ⟨(Nat.le_of_ble_eq_true rfl), (Nat.le_of_ble_eq_true rfl)⟩ rfl (fun H locs hW hS => ?_)
        refine lv_iload_n hx hb dX3_putAt_55 rfl (lv_at hl 4 rfl) ?_
        refine lv_iload hx hb dX3_putAt_56 (lv_at hl 5 rfl) ?_
        refine lv_iload hx hb dX3_putAt_58 (lv_at hl 6 rfl) ?_
        refine mt_cVv (As := [.ref (ad (100 + i)), .int (c_X3_restAt lc mc bc (mt_gu N 0 10 ((N 0 10) + 1)) G y), .int (k), .int (w), .int (v)]) (rest := []) S pv_X3_change mw_ml_X3_174 (k_X3_change l hlt g z ad lc mc bc (mt_gu N 0 10 ((N 0 10) + 1)) G o d h6 h8 hb6 (some i) (c_X3_restAt lc mc bc (mt_gu N 0 10 ((N 0 10) + 1)) G y) k w v (fun i e => by cases e; exact hi_i)) hC hW hS wc_0 rfl rfl rfl hl.1 rfl (Nat.le_of_ble_eq_true rfl) dX3_putAt_60 ⟨(Nat.le_of_ble_eq_true rfl), (Nat.le_of_ble_eq_true rfl)⟩ ⟨(Nat.le_of_ble_eq_true rfl), (Nat.le_of_ble_eq_true rfl)⟩ rfl (fun H locs hW hS => ?_)
        have hW := hW.to (w1 := mt_wc g ad lc mc bc (c_X3_putAt_N lc mc bc N G y i k w v) (c_X3_putAt_G lc mc bc N G y i k w v) o d) (by rw [c_X3_putAt_N, ocase_s hq_1, if_neg c_3, if_pos c_4, c_X3_putAt_G, ocase_s hq_1, if_neg c_3, if_pos c_4])
        exact mt_rv S hr hk hW hS rfl (Nat.le_of_ble_eq_true rfl) (Nat.le_of_ble_eq_true rfl) dX3_putAt_63

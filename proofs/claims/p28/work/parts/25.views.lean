def c_X3_sizeNow (lc mc bc : Nat) (N G : Nat → Nat → Int32) (b : Int32) (x : Int32) : Int32 := if b = 0 then (c_X3_fileSizeIn lc mc bc N G (x / 341) (x - x / 341 * 341)) else (c_X3_shownFileSize lc mc bc N G x)
set_option maxRecDepth 100000 in
set_option maxHeartbeats 4000000 in
theorem k_X3_sizeNow (l : Launch) (hlt : l.stackTraces = false) (g : mt_G) (z : Nat) (ad : Nat → Nat) (lc mc bc : Nat) (N G : Nat → Nat → Int32) (o : Nat → Int64) (d : mt_D) (h6 : lc ≤ 6) (h8 : mc ≤ 8) (hb6 : bc ≤ 6) (b : Int32) (x : Int32)  : mt_K l g z yX3_sizeNow cX3_sizeNow 3 (some .int) 5 109 0 0 [.ref (ad (0)), .int b, .int x] (mt_wc g ad lc mc bc N G o d) ad (.inr (some (.int (c_X3_sizeNow lc mc bc N G b x)))) (mt_wc g ad lc mc bc N G o d) ad := by
  refine mt_ofW (by decide +kernel) (Nat.le_of_ble_eq_true rfl) ?_
  intro p e s m args below meth c S hr9 hk hnm hout hC hW hS ls hl
  have hr := hr9
  have hx := S.1
  have hb := S.2.1
  have hl : lv_has ls 3 [(0, .ref (ad (0))), (1, .int (b)), (2, .int (x))] := hl
  refine lv_iload_n hx hb dX3_sizeNow_0 rfl (lv_at hl 1 rfl) ?_
  refine lv_if_eq (tgt := 12) hx hb dX3_sizeNow_1 (by decide) (fun c_1 => ?_) (fun c_1 => ?_)
  · refine lv_aload_n hx hb dX3_sizeNow_12 rfl (lv_at hl 0 rfl) ?_
    refine lv_iload_n hx hb dX3_sizeNow_13 rfl (lv_at hl 2 rfl) ?_
    refine lv_sipush (v := 341) hx hb dX3_sizeNow_14 (by decide) ?_
    refine lv_idiv hx hb dX3_sizeNow_17 (by decide) ?_
    refine lv_iload_n hx hb dX3_sizeNow_18 rfl (lv_at hl 2 rfl) ?_
    refine lv_sipush (v := 341) hx hb dX3_sizeNow_19 (by decide) ?_
    refine lv_irem hx hb dX3_sizeNow_22 (by decide) ?_
    refine mt_cV1 (As := [.int (x / 341), .int (x - x / 341 * 341)]) (rest := []) S pv_X3_fileSizeIn mw_ml_X3_198 (k_X3_fileSizeIn l hlt g z ad lc mc bc N G o d h6 h8 hb6 (x / 341) (x - x / 341 * 341)) hC hW hS wc_0 rfl rfl rfl hl.1 rfl (Nat.le_of_ble_eq_true rfl) dX3_sizeNow_23 ⟨(Nat.le_of_ble_eq_true rfl), (Nat.le_of_ble_eq_true rfl)⟩ ⟨(Nat.le_of_ble_eq_true rfl), (Nat.le_of_ble_eq_true rfl)⟩ rfl (fun H locs hW hS => ?_)
    exact mt_ri S hr hk hW hS (by rw [c_X3_sizeNow, if_pos c_1]) (Nat.le_of_ble_eq_true rfl) (Nat.le_of_ble_eq_true rfl) dX3_sizeNow_26
  · refine lv_aload_n hx hb dX3_sizeNow_4 rfl (lv_at hl 0 rfl) ?_
    refine lv_iload_n hx hb dX3_sizeNow_5 rfl (lv_at hl 2 rfl) ?_
    refine mt_cV1 (As := [.int (x)]) (rest := []) S pv_X3_shownFileSize mw_ml_X3_186 (k_X3_shownFileSize l hlt g z ad lc mc bc N G o d h6 h8 hb6 x) hC hW hS wc_0 rfl rfl rfl hl.1 rfl (Nat.le_of_ble_eq_true rfl) dX3_sizeNow_6 ⟨(Nat.le_of_ble_eq_true rfl), (Nat.le_of_ble_eq_true rfl)⟩ ⟨(Nat.le_of_ble_eq_true rfl), (Nat.le_of_ble_eq_true rfl)⟩ rfl (fun H locs hW hS => ?_)
    refine lv_goto (tgt := 26) hx hb dX3_sizeNow_9 (by decide) ?_
    exact mt_ri S hr hk hW hS (by rw [c_X3_sizeNow, if_neg c_1]) (Nat.le_of_ble_eq_true rfl) (Nat.le_of_ble_eq_true rfl) dX3_sizeNow_26
def c_X3_shownBytes_sG (lc mc bc : Nat) (N G : Nat → Nat → Int32)  : Nat → Nat → Nat → Int32
  | 0 => G
  | k + 1 => ocase (c_X3_layerAt lc mc bc N (c_X3_shownBytes_sG lc mc bc N G k) (c_X3_layerShown lc mc bc N (c_X3_shownBytes_sG lc mc bc N G k) (nI (1 + k)))) (c_X3_shownBytes_sG lc mc bc N G k) (fun i_5 => c_X1_bytesNotYetCounted_G lc mc bc N (c_X3_shownBytes_sG lc mc bc N G k) i_5 (c_X3_restAt lc mc bc N (c_X3_shownBytes_sG lc mc bc N G k) (nI (1 + k))))
def c_X3_shownBytes_sb (lc mc bc : Nat) (N G : Nat → Nat → Int32)  : Nat → Int32
  | 0 => 0
  | k + 1 => ocase (c_X3_layerAt lc mc bc N (c_X3_shownBytes_sG lc mc bc N G k) (c_X3_layerShown lc mc bc N (c_X3_shownBytes_sG lc mc bc N G k) (nI (1 + k)))) (c_X3_shownBytes_sb lc mc bc N G k) (fun i_5 => (c_X3_shownBytes_sb lc mc bc N G k) + (c_X1_bytesNotYetCounted lc mc bc N (c_X3_shownBytes_sG lc mc bc N G k) i_5 (c_X3_restAt lc mc bc N (c_X3_shownBytes_sG lc mc bc N G k) (nI (1 + k)))))
def c_X3_shownBytes_fG (lc mc bc : Nat) (N G : Nat → Nat → Int32)  : Nat → Nat → Nat → Int32
  | 0 => G
  | k + 1 => ocase (c_X3_layerAt lc mc bc N (c_X3_shownBytes_fG lc mc bc N G k) (nI k)) (c_X3_shownBytes_fG lc mc bc N G k) (fun i_8 => c_X1_forgetCounted_G lc mc bc N (c_X3_shownBytes_fG lc mc bc N G k) i_8)
def c_X3_shownBytes (lc mc bc : Nat) (N G : Nat → Nat → Int32)  : Int32 := c_X3_shownBytes_sb lc mc bc N (c_X3_shownBytes_fG lc mc bc N G lc) 340
def c_X3_shownBytes_G (lc mc bc : Nat) (N G : Nat → Nat → Int32)  : Nat → Nat → Int32 := c_X3_shownBytes_sG lc mc bc N (c_X3_shownBytes_fG lc mc bc N G lc) 340
set_option maxRecDepth 100000 in
set_option maxHeartbeats 4000000 in
theorem k_X3_shownBytes (l : Launch) (hlt : l.stackTraces = false) (g : mt_G) (z : Nat) (ad : Nat → Nat) (lc mc bc : Nat) (N G : Nat → Nat → Int32) (o : Nat → Int64) (d : mt_D) (h6 : lc ≤ 6) (h8 : mc ≤ 8) (hb6 : bc ≤ 6)   : mt_K l g z yX3_shownBytes cX3_shownBytes 4 (some .int) 4 88 0 0 [.ref (ad (0))] (mt_wc g ad lc mc bc N G o d) ad (.inr (some (.int (c_X3_shownBytes lc mc bc N G)))) (mt_wc g ad lc mc bc N (c_X3_shownBytes_G lc mc bc N G) o d) ad := by
  refine mt_ofW (by decide +kernel) (Nat.le_of_ble_eq_true rfl) ?_
  intro p e s m args below meth c S hr9 hk hnm hout hC hW hS ls hl
  have hr := hr9
  have hx := S.1
  have hb := S.2.1
  have hl : lv_has ls 4 [(0, .ref (ad (0)))] := hl
  refine lv_iconst (v := 0) hx hb dX3_shownBytes_0 (by decide) ?_
  refine lv_istore_n (lv' := [(1, .int (0)), (0, .ref (ad (0)))]) hx hb dX3_shownBytes_1 rfl hl (by decide) rfl (fun ls hl => ?_)
  have hl : lv_has ls 4 [(1, .int (nI 0)), (0, .ref (ad (0)))] := lv_sub hl [0, 1] rfl
  have hW : mt_W g z (mt_wc g ad lc mc bc N (c_X3_shownBytes_fG lc mc bc N G 0) o d) ad _ := hW
  refine lp_up lc (fun k => mt_wc g ad lc mc bc N (c_X3_shownBytes_fG lc mc bc N G k) o d) (fun k => [(1, .int (nI k)), (0, .ref (ad (0)))]) (fun _ => True) 0 (by omega) trivial hW hS hl (fun H locs ls hP hW hS hl => ?_) (fun k H locs ls hk0 hkn hP hW hS hl ih => ?_)
  · have hW : mt_W g z (mt_wc g ad lc mc bc N (c_X3_shownBytes_fG lc mc bc N G lc) o d) ad _ := hW
    have hl : lv_has ls 4 [(1, .int (nI lc)), (0, .ref (ad (0)))] := hl
    refine lv_iload_n hx hb dX3_shownBytes_2 rfl (lv_at hl 0 rfl) ?_
    refine lv_aload_n hx hb dX3_shownBytes_3 rfl (lv_at hl 1 rfl) ?_
    refine mt_get S iw_X3 hC hW wc_0 rfl 7 (by decide) mw_fl_X3_40 rfl rfl dX3_shownBytes_4 ?_
    refine lv_icmp_ge (tgt := 30) hx hb dX3_shownBytes_7 (by decide) (fun c_1 => ?_) (fun c_1 => absurd (nI_le (a := lc) (b := lc) (Nat.le_refl _) (by omega)) c_1)
    refine lv_iconst (v := 0) hx hb dX3_shownBytes_30 (by decide) ?_
    refine lv_istore_n (lv' := [(1, .int (0)), (0, .ref (ad (0)))]) hx hb dX3_shownBytes_31 rfl hl (by decide) rfl (fun ls hl => ?_)
    refine lv_iconst (v := 1) hx hb dX3_shownBytes_32 (by decide) ?_
    refine lv_istore_n (lv' := [(2, .int (1)), (1, .int (0)), (0, .ref (ad (0)))]) hx hb dX3_shownBytes_33 rfl hl (by decide) rfl (fun ls hl => ?_)
    have hl : lv_has ls 4 [(1, .int (c_X3_shownBytes_sb lc mc bc N (c_X3_shownBytes_fG lc mc bc N G lc) 0)), (2, .int (nI (1 + 0))), (0, .ref (ad (0)))] := lv_sub hl [1, 0, 2] rfl
    have hW : mt_W g z (mt_wc g ad lc mc bc N (c_X3_shownBytes_sG lc mc bc N (c_X3_shownBytes_fG lc mc bc N G lc) 0) o d) ad _ := hW
    refine lp_up 340 (fun k => mt_wc g ad lc mc bc N (c_X3_shownBytes_sG lc mc bc N (c_X3_shownBytes_fG lc mc bc N G lc) k) o d) (fun k => [(1, .int (c_X3_shownBytes_sb lc mc bc N (c_X3_shownBytes_fG lc mc bc N G lc) k)), (2, .int (nI (1 + k))), (0, .ref (ad (0)))]) (fun _ => True) 0 (by omega) trivial hW hS hl (fun H locs ls hP hW hS hl => ?_) (fun k H locs ls hk0 hkn hP hW hS hl ih => ?_)
    · have hW : mt_W g z (mt_wc g ad lc mc bc N (c_X3_shownBytes_sG lc mc bc N (c_X3_shownBytes_fG lc mc bc N G lc) 340) o d) ad _ := hW
      have hl : lv_has ls 4 [(1, .int (c_X3_shownBytes_sb lc mc bc N (c_X3_shownBytes_fG lc mc bc N G lc) 340)), (2, .int (nI (1 + 340))), (0, .ref (ad (0)))] := hl
      refine lv_iload_n hx hb dX3_shownBytes_34 rfl (lv_at hl 1 rfl) ?_
      refine lv_sipush (v := 341) hx hb dX3_shownBytes_35 (by decide) ?_
      refine lv_icmp_ge (tgt := 73) hx hb dX3_shownBytes_38 (by decide) (fun c_2 => ?_) (fun c_2 => absurd (nI_le (a := 341) (b := 1 + 340) (by omega) (by omega)) c_2)
      refine lv_iload_n hx hb dX3_shownBytes_73 rfl (lv_at hl 0 rfl) ?_
      have hW := hW.to (w1 := mt_wc g ad lc mc bc N (c_X3_shownBytes_G lc mc bc N G) o d) (by rw [c_X3_shownBytes_G])
      exact mt_ri S hr hk hW hS (by rw [c_X3_shownBytes]) (Nat.le_of_ble_eq_true rfl) (Nat.le_of_ble_eq_true rfl) dX3_shownBytes_74
    · have hW : mt_W g z (mt_wc g ad lc mc bc N (c_X3_shownBytes_sG lc mc bc N (c_X3_shownBytes_fG lc mc bc N G lc) k) o d) ad _ := hW
      have hl : lv_has ls 4 [(1, .int (c_X3_shownBytes_sb lc mc bc N (c_X3_shownBytes_fG lc mc bc N G lc) k)), (2, .int (nI (1 + k))), (0, .ref (ad (0)))] := hl
      refine lv_iload_n hx hb dX3_shownBytes_34 rfl (lv_at hl 1 rfl) ?_
      refine lv_sipush (v := 341) hx hb dX3_shownBytes_35 (by decide) ?_
      refine lv_icmp_ge (tgt := 73) hx hb dX3_shownBytes_38 (by decide) (fun c_3 => absurd c_3 (nI_ge (a := 1 + k) (b := 341) (by omega) (by omega))) (fun c_3 => ?_)
      refine lv_aload_n hx hb dX3_shownBytes_41 rfl (lv_at hl 2 rfl) ?_
      refine lv_aload_n hx hb dX3_shownBytes_42 rfl (lv_at hl 2 rfl) ?_
      refine lv_iload_n hx hb dX3_shownBytes_43 rfl (lv_at hl 1 rfl) ?_
      refine mt_cV1 (As := [.int (nI (1 + k))]) (rest := [.ref (ad (0))]) S pv_X3_layerShown mw_ml_X3_178 (k_X3_layerShown l hlt g z ad lc mc bc N (c_X3_shownBytes_sG lc mc bc N (c_X3_shownBytes_fG lc mc bc N G lc) k) o d h6 h8 hb6 (nI (1 + k))) hC hW hS wc_0 rfl rfl rfl hl.1 rfl (Nat.le_of_ble_eq_true rfl) dX3_shownBytes_44 ⟨(Nat.le_of_ble_eq_true rfl), (Nat.le_of_ble_eq_true rfl)⟩ ⟨(Nat.le_of_ble_eq_true rfl), (Nat.le_of_ble_eq_true rfl)⟩ rfl (fun H locs hW hS => ?_)
      rcases hq_4 : (c_X3_layerAt lc mc bc N (c_X3_shownBytes_sG lc mc bc N (c_X3_shownBytes_fG lc mc bc N G lc) k) (c_X3_layerShown lc mc bc N (c_X3_shownBytes_sG lc mc bc N (c_X3_shownBytes_fG lc mc bc N G lc) k) (nI (1 + k)))) with _ | i_5
      · refine mt_cV1 (v := .null) (As := [.int (c_X3_layerShown lc mc bc N (c_X3_shownBytes_sG lc mc bc N (c_X3_shownBytes_fG lc mc bc N G lc) k) (nI (1 + k)))]) (rest := []) S pv_X3_layerAt mw_ml_X3_61 (k_X3_layerAt l hlt g z ad lc mc bc N (c_X3_shownBytes_sG lc mc bc N (c_X3_shownBytes_fG lc mc bc N G lc) k) o d h6 h8 hb6 (c_X3_layerShown lc mc bc N (c_X3_shownBytes_sG lc mc bc N (c_X3_shownBytes_fG lc mc bc N G lc) k) (nI (1 + k)))) hC hW hS wc_0 rfl rfl rfl hl.1 rfl (Nat.le_of_ble_eq_true rfl) dX3_shownBytes_47 ⟨(Nat.le_of_ble_eq_true rfl), (Nat.le_of_ble_eq_true rfl)⟩ ⟨(Nat.le_of_ble_eq_true rfl), (Nat.le_of_ble_eq_true rfl)⟩ (congrArg (a₂ := none) (xr_a ad 100) hq_4) (fun H locs hW hS => ?_)
        refine lv_astore_nN (lv' := [(3, .null), (1, .int (c_X3_shownBytes_sb lc mc bc N (c_X3_shownBytes_fG lc mc bc N G lc) k)), (2, .int (nI (1 + k))), (0, .ref (ad (0)))]) hx hb dX3_shownBytes_50 rfl hl (by decide) rfl (fun ls hl => ?_)
        refine lv_aload_nN hx hb dX3_shownBytes_51 rfl (lv_at hl 0 rfl) ?_
        refine lv_ifnullN (tgt := 67) hx hb dX3_shownBytes_52 (by decide) ?_
        refine lv_iinc (v := nI ((1 + k) + 1)) (lv' := [(2, .int (nI ((1 + k) + 1))), (3, .null), (1, .int (c_X3_shownBytes_sb lc mc bc N (c_X3_shownBytes_fG lc mc bc N G lc) k)), (0, .ref (ad (0)))]) hx hb dX3_shownBytes_67 hl (k := 2) rfl (nI_1 _) (by decide) rfl (fun ls hl => ?_)
        refine lv_goto (tgt := 34) hx hb dX3_shownBytes_70 (by decide) ?_
        have hW : mt_W g z (mt_wc g ad lc mc bc N (c_X3_shownBytes_sG lc mc bc N (c_X3_shownBytes_fG lc mc bc N G lc) (k + 1)) o d) ad _ := hW.to (by rw [show c_X3_shownBytes_sG lc mc bc N (c_X3_shownBytes_fG lc mc bc N G lc) (k + 1) = c_X3_shownBytes_sG lc mc bc N (c_X3_shownBytes_fG lc mc bc N G lc) k from (by rw [c_X3_shownBytes_sG, ocase_n hq_4])])
        have hl : lv_has ls 4 [(1, .int (c_X3_shownBytes_sb lc mc bc N (c_X3_shownBytes_fG lc mc bc N G lc) (k + 1))), (2, .int (nI (1 + (k + 1)))), (0, .ref (ad (0)))] := by rw [show c_X3_shownBytes_sb lc mc bc N (c_X3_shownBytes_fG lc mc bc N G lc) (k + 1) = c_X3_shownBytes_sb lc mc bc N (c_X3_shownBytes_fG lc mc bc N G lc) k from (by rw [c_X3_shownBytes_sb, ocase_n hq_4])]; exact lv_sub hl [2, 0, 3] rfl
        exact ih _ _ _ trivial hW hS hl
      · refine mt_cV1 (v := .ref (ad (100 + i_5))) (As := [.int (c_X3_layerShown lc mc bc N (c_X3_shownBytes_sG lc mc bc N (c_X3_shownBytes_fG lc mc bc N G lc) k) (nI (1 + k)))]) (rest := []) S pv_X3_layerAt mw_ml_X3_61 (k_X3_layerAt l hlt g z ad lc mc bc N (c_X3_shownBytes_sG lc mc bc N (c_X3_shownBytes_fG lc mc bc N G lc) k) o d h6 h8 hb6 (c_X3_layerShown lc mc bc N (c_X3_shownBytes_sG lc mc bc N (c_X3_shownBytes_fG lc mc bc N G lc) k) (nI (1 + k)))) hC hW hS wc_0 rfl rfl rfl hl.1 rfl (Nat.le_of_ble_eq_true rfl) dX3_shownBytes_47 ⟨(Nat.le_of_ble_eq_true rfl), (Nat.le_of_ble_eq_true rfl)⟩ ⟨(Nat.le_of_ble_eq_true rfl), (Nat.le_of_ble_eq_true rfl)⟩ (congrArg (a₂ := some i_5) (xr_a ad 100) hq_4) (fun H locs hW hS => ?_)
        have hi_i_5 := c_layerAt_lt hq_4
        refine lv_astore_n (lv' := [(3, .ref (ad (100 + i_5))), (1, .int (c_X3_shownBytes_sb lc mc bc N (c_X3_shownBytes_fG lc mc bc N G lc) k)), (2, .int (nI (1 + k))), (0, .ref (ad (0)))]) hx hb dX3_shownBytes_50 rfl hl (by decide) rfl (fun ls hl => ?_)
        refine lv_aload_n hx hb dX3_shownBytes_51 rfl (lv_at hl 0 rfl) ?_
        refine lv_ifnull hx hb dX3_shownBytes_52 ?_
        refine lv_iload_n hx hb dX3_shownBytes_55 rfl (lv_at hl 1 rfl) ?_
        refine lv_aload_n hx hb dX3_shownBytes_56 rfl (lv_at hl 0 rfl) ?_
        refine lv_aload_n hx hb dX3_shownBytes_57 rfl (lv_at hl 3 rfl) ?_
        refine lv_iload_n hx hb dX3_shownBytes_58 rfl (lv_at hl 2 rfl) ?_
        refine mt_cV1 (As := [.int (nI (1 + k))]) (rest := [.ref (ad (100 + i_5)), .int (c_X3_shownBytes_sb lc mc bc N (c_X3_shownBytes_fG lc mc bc N G lc) k)]) S pv_X3_restAt mw_ml_X3_133 (k_X3_restAt l hlt g z ad lc mc bc N (c_X3_shownBytes_sG lc mc bc N (c_X3_shownBytes_fG lc mc bc N G lc) k) o d h6 h8 hb6 (nI (1 + k))) hC hW hS wc_0 rfl rfl rfl hl.1 rfl (Nat.le_of_ble_eq_true rfl) dX3_shownBytes_59 ⟨(Nat.le_of_ble_eq_true rfl), (Nat.le_of_ble_eq_true rfl)⟩ ⟨(Nat.le_of_ble_eq_true rfl), (Nat.le_of_ble_eq_true rfl)⟩ rfl (fun H locs hW hS => ?_)
        refine mt_cV1 (As := [.int (c_X3_restAt lc mc bc N (c_X3_shownBytes_sG lc mc bc N (c_X3_shownBytes_fG lc mc bc N G lc) k) (nI (1 + k)))]) (rest := [.int (c_X3_shownBytes_sb lc mc bc N (c_X3_shownBytes_fG lc mc bc N G lc) k)]) S pv_X1_bytesNotYetCounted mw_ml_X3_284 (k_X1_bytesNotYetCounted l hlt g z ad lc mc bc N (c_X3_shownBytes_sG lc mc bc N (c_X3_shownBytes_fG lc mc bc N G lc) k) o d h6 h8 hb6 i_5 (c_X3_restAt lc mc bc N (c_X3_shownBytes_sG lc mc bc N (c_X3_shownBytes_fG lc mc bc N G lc) k) (nI (1 + k))) hi_i_5) hC hW hS (wc_lay h6 hi_i_5) rfl rfl rfl hl.1 rfl (Nat.le_of_ble_eq_true rfl) dX3_shownBytes_62 ⟨(Nat.le_of_ble_eq_true rfl), (Nat.le_of_ble_eq_true rfl)⟩ ⟨(Nat.le_of_ble_eq_true rfl), (Nat.le_of_ble_eq_true rfl)⟩ rfl (fun H locs hW hS => ?_)
        refine lv_iadd hx hb dX3_shownBytes_65 ?_
        refine lv_istore_n (lv' := [(1, .int ((c_X3_shownBytes_sb lc mc bc N (c_X3_shownBytes_fG lc mc bc N G lc) k) + (c_X1_bytesNotYetCounted lc mc bc N (c_X3_shownBytes_sG lc mc bc N (c_X3_shownBytes_fG lc mc bc N G lc) k) i_5 (c_X3_restAt lc mc bc N (c_X3_shownBytes_sG lc mc bc N (c_X3_shownBytes_fG lc mc bc N G lc) k) (nI (1 + k)))))), (3, .ref (ad (100 + i_5))), (2, .int (nI (1 + k))), (0, .ref (ad (0)))]) hx hb dX3_shownBytes_66 rfl hl (by decide) rfl (fun ls hl => ?_)
        refine lv_iinc (v := nI ((1 + k) + 1)) (lv' := [(2, .int (nI ((1 + k) + 1))), (1, .int ((c_X3_shownBytes_sb lc mc bc N (c_X3_shownBytes_fG lc mc bc N G lc) k) + (c_X1_bytesNotYetCounted lc mc bc N (c_X3_shownBytes_sG lc mc bc N (c_X3_shownBytes_fG lc mc bc N G lc) k) i_5 (c_X3_restAt lc mc bc N (c_X3_shownBytes_sG lc mc bc N (c_X3_shownBytes_fG lc mc bc N G lc) k) (nI (1 + k)))))), (3, .ref (ad (100 + i_5))), (0, .ref (ad (0)))]) hx hb dX3_shownBytes_67 hl (k := 2) rfl (nI_1 _) (by decide) rfl (fun ls hl => ?_)
        refine lv_goto (tgt := 34) hx hb dX3_shownBytes_70 (by decide) ?_
        have hW : mt_W g z (mt_wc g ad lc mc bc N (c_X3_shownBytes_sG lc mc bc N (c_X3_shownBytes_fG lc mc bc N G lc) (k + 1)) o d) ad _ := hW.to (by rw [show c_X3_shownBytes_sG lc mc bc N (c_X3_shownBytes_fG lc mc bc N G lc) (k + 1) = c_X1_bytesNotYetCounted_G lc mc bc N (c_X3_shownBytes_sG lc mc bc N (c_X3_shownBytes_fG lc mc bc N G lc) k) i_5 (c_X3_restAt lc mc bc N (c_X3_shownBytes_sG lc mc bc N (c_X3_shownBytes_fG lc mc bc N G lc) k) (nI (1 + k))) from (by rw [c_X3_shownBytes_sG, ocase_s hq_4])])
        have hl : lv_has ls 4 [(1, .int (c_X3_shownBytes_sb lc mc bc N (c_X3_shownBytes_fG lc mc bc N G lc) (k + 1))), (2, .int (nI (1 + (k + 1)))), (0, .ref (ad (0)))] := by rw [show c_X3_shownBytes_sb lc mc bc N (c_X3_shownBytes_fG lc mc bc N G lc) (k + 1) = (c_X3_shownBytes_sb lc mc bc N (c_X3_shownBytes_fG lc mc bc N G lc) k) + (c_X1_bytesNotYetCounted lc mc bc N (c_X3_shownBytes_sG lc mc bc N (c_X3_shownBytes_fG lc mc bc N G lc) k) i_5 (c_X3_restAt lc mc bc N (c_X3_shownBytes_sG lc mc bc N (c_X3_shownBytes_fG lc mc bc N G lc) k) (nI (1 + k)))) from (by rw [c_X3_shownBytes_sb, ocase_s hq_4])]; exact lv_sub hl [1, 0, 3] rfl
        exact ih _ _ _ trivial hW hS hl
  · have hW : mt_W g z (mt_wc g ad lc mc bc N (c_X3_shownBytes_fG lc mc bc N G k) o d) ad _ := hW
    have hl : lv_has ls 4 [(1, .int (nI k)), (0, .ref (ad (0)))] := hl
    refine lv_iload_n hx hb dX3_shownBytes_2 rfl (lv_at hl 0 rfl) ?_
    refine lv_aload_n hx hb dX3_shownBytes_3 rfl (lv_at hl 1 rfl) ?_
    refine mt_get S iw_X3 hC hW wc_0 rfl 7 (by decide) mw_fl_X3_40 rfl rfl dX3_shownBytes_4 ?_
    refine lv_icmp_ge (tgt := 30) hx hb dX3_shownBytes_7 (by decide) (fun c_6 => absurd c_6 (nI_ge (a := k) (b := lc) hkn (by omega))) (fun c_6 => ?_)
    refine lv_aload_n hx hb dX3_shownBytes_10 rfl (lv_at hl 1 rfl) ?_
    refine lv_iload_n hx hb dX3_shownBytes_11 rfl (lv_at hl 0 rfl) ?_
    rcases hq_7 : (c_X3_layerAt lc mc bc N (c_X3_shownBytes_fG lc mc bc N G k) (nI k)) with _ | i_8
    · refine mt_cV1 (v := .null) (As := [.int (nI k)]) (rest := []) S pv_X3_layerAt mw_ml_X3_61 (k_X3_layerAt l hlt g z ad lc mc bc N (c_X3_shownBytes_fG lc mc bc N G k) o d h6 h8 hb6 (nI k)) hC hW hS wc_0 rfl rfl rfl hl.1 rfl (Nat.le_of_ble_eq_true rfl) dX3_shownBytes_12 ⟨(Nat.le_of_ble_eq_true rfl), (Nat.le_of_ble_eq_true rfl)⟩ ⟨(Nat.le_of_ble_eq_true rfl), (Nat.le_of_ble_eq_true rfl)⟩ (congrArg (a₂ := none) (xr_a ad 100) hq_7) (fun H locs hW hS => ?_)
      refine lv_astore_nN (lv' := [(2, .null), (1, .int (nI k)), (0, .ref (ad (0)))]) hx hb dX3_shownBytes_15 rfl hl (by decide) rfl (fun ls hl => ?_)
      refine lv_aload_nN hx hb dX3_shownBytes_16 rfl (lv_at hl 0 rfl) ?_
      refine lv_ifnullN (tgt := 24) hx hb dX3_shownBytes_17 (by decide) ?_
      refine lv_iinc (v := nI (k + 1)) (lv' := [(1, .int (nI (k + 1))), (2, .null), (0, .ref (ad (0)))]) hx hb dX3_shownBytes_24 hl (k := 1) rfl (nI_1 _) (by decide) rfl (fun ls hl => ?_)
      refine lv_goto (tgt := 2) hx hb dX3_shownBytes_27 (by decide) ?_
      have hW : mt_W g z (mt_wc g ad lc mc bc N (c_X3_shownBytes_fG lc mc bc N G (k + 1)) o d) ad _ := hW.to (by rw [show c_X3_shownBytes_fG lc mc bc N G (k + 1) = c_X3_shownBytes_fG lc mc bc N G k from (by rw [c_X3_shownBytes_fG, ocase_n hq_7])])
      have hl : lv_has ls 4 [(1, .int (nI (k + 1))), (0, .ref (ad (0)))] := lv_sub hl [0, 2] rfl
      exact ih _ _ _ trivial hW hS hl
    · refine mt_cV1 (v := .ref (ad (100 + i_8))) (As := [.int (nI k)]) (rest := []) S pv_X3_layerAt mw_ml_X3_61 (k_X3_layerAt l hlt g z ad lc mc bc N (c_X3_shownBytes_fG lc mc bc N G k) o d h6 h8 hb6 (nI k)) hC hW hS wc_0 rfl rfl rfl hl.1 rfl (Nat.le_of_ble_eq_true rfl) dX3_shownBytes_12 ⟨(Nat.le_of_ble_eq_true rfl), (Nat.le_of_ble_eq_true rfl)⟩ ⟨(Nat.le_of_ble_eq_true rfl), (Nat.le_of_ble_eq_true rfl)⟩ (congrArg (a₂ := some i_8) (xr_a ad 100) hq_7) (fun H locs hW hS => ?_)
      have hi_i_8 := c_layerAt_lt hq_7
      refine lv_astore_n (lv' := [(2, .ref (ad (100 + i_8))), (1, .int (nI k)), (0, .ref (ad (0)))]) hx hb dX3_shownBytes_15 rfl hl (by decide) rfl (fun ls hl => ?_)
      refine lv_aload_n hx hb dX3_shownBytes_16 rfl (lv_at hl 0 rfl) ?_
      refine lv_ifnull hx hb dX3_shownBytes_17 ?_
      refine lv_aload_n hx hb dX3_shownBytes_20 rfl (lv_at hl 0 rfl) ?_
      refine mt_cVv (As := []) (rest := []) S pv_X1_forgetCounted mw_ml_X3_281 (k_X1_forgetCounted l hlt g z ad lc mc bc N (c_X3_shownBytes_fG lc mc bc N G k) o d h6 h8 hb6 i_8 hi_i_8) hC hW hS (wc_lay h6 hi_i_8) rfl rfl rfl hl.1 rfl (Nat.le_of_ble_eq_true rfl) dX3_shownBytes_21 ⟨(Nat.le_of_ble_eq_true rfl), (Nat.le_of_ble_eq_true rfl)⟩ ⟨(Nat.le_of_ble_eq_true rfl), (Nat.le_of_ble_eq_true rfl)⟩ rfl (fun H locs hW hS => ?_)
      refine lv_iinc (v := nI (k + 1)) (lv' := [(1, .int (nI (k + 1))), (2, .ref (ad (100 + i_8))), (0, .ref (ad (0)))]) hx hb dX3_shownBytes_24 hl (k := 1) rfl (nI_1 _) (by decide) rfl (fun ls hl => ?_)
      refine lv_goto (tgt := 2) hx hb dX3_shownBytes_27 (by decide) ?_
      have hW : mt_W g z (mt_wc g ad lc mc bc N (c_X3_shownBytes_fG lc mc bc N G (k + 1)) o d) ad _ := hW.to (by rw [show c_X3_shownBytes_fG lc mc bc N G (k + 1) = c_X1_forgetCounted_G lc mc bc N (c_X3_shownBytes_fG lc mc bc N G k) i_8 from (by rw [c_X3_shownBytes_fG, ocase_s hq_7])])
      have hl : lv_has ls 4 [(1, .int (nI (k + 1))), (0, .ref (ad (0)))] := lv_sub hl [0, 2] rfl
      exact ih _ _ _ trivial hW hS hl
/-- what a path leads to after k links, and where it ends -/
def c_lnk (lc mc bc : Nat) (N G : Nat → Nat → Int32) (x : Int32) : Nat → Int32
  | 0 => x
  | k + 1 => ocase (c_X3_layerAt lc mc bc N G (c_X3_layerShown lc mc bc N G (c_X3_placeOf (c_lnk lc mc bc N G x k)))) 0 (fun i => c_X1_valueAt lc mc bc N G i (c_X3_restAt lc mc bc N G (c_X3_placeOf (c_lnk lc mc bc N G x k))))
def c_ends (lc mc bc : Nat) (N G : Nat → Nat → Int32) (x : Int32) : Nat → Nat → String ⊕ Int32
  | 0, _ => .inl "java/lang/IllegalStateException"
  | n + 1, k => ocase (c_X3_layerAt lc mc bc N G (c_X3_layerShown lc mc bc N G (c_X3_placeOf (c_lnk lc mc bc N G x k)))) (.inr (c_lnk lc mc bc N G x k)) (fun i => if c_X1_kindAt lc mc bc N G i (c_X3_restAt lc mc bc N G (c_X3_placeOf (c_lnk lc mc bc N G x k))) = 2 then (if c_X3_mayLead lc mc bc N G (c_X3_placeOf (c_lnk lc mc bc N G x k)) (c_X3_placeOf (c_X1_valueAt lc mc bc N G i (c_X3_restAt lc mc bc N G (c_X3_placeOf (c_lnk lc mc bc N G x k))))) = 0 then .inl "java/lang/UnsupportedOperationException" else c_ends lc mc bc N G x n (k + 1)) else .inr (c_lnk lc mc bc N G x k))
def c_X3_endOfLinks (lc mc bc : Nat) (N G : Nat → Nat → Int32) (x : Int32) : String ⊕ Int32 := c_ends lc mc bc N G x 5 0
set_option maxRecDepth 100000 in
set_option maxHeartbeats 4000000 in
theorem k_X3_endOfLinks (l : Launch) (hlt : l.stackTraces = false) (g : mt_G) (z : Nat) (ad : Nat → Nat) (lc mc bc : Nat) (N G : Nat → Nat → Int32) (o : Nat → Int64) (d : mt_D) (h6 : lc ≤ 6) (h8 : mc ≤ 8) (hb6 : bc ≤ 6) (x : Int32)  : mt_K l g z yX3_endOfLinks cX3_endOfLinks 7 (some .int) 6 88 1 6 [.ref (ad (0)), .int x] (mt_wc g ad lc mc bc N G o d) ad (xr_i (c_X3_endOfLinks lc mc bc N G x)) (mt_wc g ad lc mc bc N G o d) ad := by
  refine mt_ofW (by decide +kernel) (Nat.le_of_ble_eq_true rfl) ?_
  intro p e s m args below meth c S hr9 hk hnm hout hC hW hS ls hl
  have hr := hr9
  have hx := S.1
  have hb := S.2.1
  have hl : lv_has ls 7 [(0, .ref (ad (0))), (1, .int (x))] := hl
  refine lv_iload_n hx hb dX3_endOfLinks_0 rfl (lv_at hl 1 rfl) ?_
  refine lv_istore_n (lv' := [(2, .int (x)), (0, .ref (ad (0))), (1, .int (x))]) hx hb dX3_endOfLinks_1 rfl hl (by decide) rfl (fun ls hl => ?_)
  refine lv_iconst (v := 0) hx hb dX3_endOfLinks_2 (by decide) ?_
  refine lv_istore_n (lv' := [(3, .int (0)), (2, .int (x)), (0, .ref (ad (0))), (1, .int (x))]) hx hb dX3_endOfLinks_3 rfl hl (by decide) rfl (fun ls hl => ?_)
  have hl : lv_has ls 7 [(3, .int (nI 0)), (2, .int (c_lnk lc mc bc N G x 0)), (0, .ref (ad (0)))] := lv_sub hl [0, 1, 2] rfl
  refine lp_up 5 (fun k => mt_wc g ad lc mc bc N G o d) (fun k => [(3, .int (nI k)), (2, .int (c_lnk lc mc bc N G x k)), (0, .ref (ad (0)))]) (fun k => c_X3_endOfLinks lc mc bc N G x = c_ends lc mc bc N G x (5 - k) k) 0 (by omega) rfl hW hS hl (fun H locs ls hP hW hS hl => ?_) (fun k H locs ls hk0 hkn hP hW hS hl ih => ?_)
  · have hW : mt_W g z (mt_wc g ad lc mc bc N G o d) ad _ := hW
    have hl : lv_has ls 7 [(3, .int (nI 5)), (2, .int (c_lnk lc mc bc N G x 5)), (0, .ref (ad (0)))] := hl
    have hP : c_X3_endOfLinks lc mc bc N G x = c_ends lc mc bc N G x (5 - 5) 5 := hP
    refine lv_iload_n hx hb dX3_endOfLinks_4 rfl (lv_at hl 0 rfl) ?_
    refine lv_iconst (v := 4) hx hb dX3_endOfLinks_5 (by decide) ?_
    refine lv_icmp_gt (tgt := 96) hx hb dX3_endOfLinks_6 (by decide) (fun c_1 => ?_) (fun c_1 => absurd (by decide) c_1)
    exact mt_throwW S hlt mp_ISE (List.mem_of_getElem? (i := 14) rfl) hC hW hS hl.1 hout hk (congrArg xr_i (show c_X3_endOfLinks lc mc bc N G x = .inl "java/lang/IllegalStateException" from hP.trans (by rw [Nat.sub_self, c_ends]))) dX3_endOfLinks_96 dX3_endOfLinks_99 dX3_endOfLinks_100 dX3_endOfLinks_103 dX3_endOfLinks_106 (Nat.le_of_ble_eq_true rfl) (Nat.le_of_ble_eq_true rfl) ⟨(Nat.le_of_ble_eq_true rfl), (Nat.le_of_ble_eq_true rfl)⟩ (Nat.le_of_ble_eq_true rfl) (Nat.le_of_ble_eq_true rfl)
  · have hW : mt_W g z (mt_wc g ad lc mc bc N G o d) ad _ := hW
    have hl : lv_has ls 7 [(3, .int (nI k)), (2, .int (c_lnk lc mc bc N G x k)), (0, .ref (ad (0)))] := hl
    have hP : c_X3_endOfLinks lc mc bc N G x = c_ends lc mc bc N G x (5 - k) k := hP
    refine lv_iload_n hx hb dX3_endOfLinks_4 rfl (lv_at hl 0 rfl) ?_
    refine lv_iconst (v := 4) hx hb dX3_endOfLinks_5 (by decide) ?_
    refine lv_icmp_gt (tgt := 96) hx hb dX3_endOfLinks_6 (by decide) (fun c_2 => absurd c_2 (nI_nlt (a := 4) (b := k) (by omega) (by decide))) (fun c_2 => ?_)
    refine lv_iload_n hx hb dX3_endOfLinks_9 rfl (lv_at hl 1 rfl) ?_
    refine mt_cS1 (As := [.int (c_lnk lc mc bc N G x k)]) (rest := []) S ps_X3_placeOf mw_ml_X3_52 (k_X3_placeOf l hlt g z ad lc mc bc N G o d h6 h8 hb6 (c_lnk lc mc bc N G x k)) hC hW hS rfl hl.1 rfl (Nat.le_of_ble_eq_true rfl) dX3_endOfLinks_10 ⟨(Nat.le_of_ble_eq_true rfl), (Nat.le_of_ble_eq_true rfl)⟩ ⟨(Nat.le_of_ble_eq_true rfl), (Nat.le_of_ble_eq_true rfl)⟩ rfl (fun H locs hW hS => ?_)
    refine lv_istore (lv' := [(4, .int (c_X3_placeOf (c_lnk lc mc bc N G x k))), (3, .int (nI k)), (2, .int (c_lnk lc mc bc N G x k)), (0, .ref (ad (0)))]) hx hb dX3_endOfLinks_13 hl (by decide) rfl (fun ls hl => ?_)
    refine lv_aload_n hx hb dX3_endOfLinks_15 rfl (lv_at hl 3 rfl) ?_
    refine lv_aload_n hx hb dX3_endOfLinks_16 rfl (lv_at hl 3 rfl) ?_
    refine lv_iload hx hb dX3_endOfLinks_17 (lv_at hl 0 rfl) ?_
    refine mt_cV1 (As := [.int (c_X3_placeOf (c_lnk lc mc bc N G x k))]) (rest := [.ref (ad (0))]) S pv_X3_layerShown mw_ml_X3_178 (k_X3_layerShown l hlt g z ad lc mc bc N G o d h6 h8 hb6 (c_X3_placeOf (c_lnk lc mc bc N G x k))) hC hW hS wc_0 rfl rfl rfl hl.1 rfl (Nat.le_of_ble_eq_true rfl) dX3_endOfLinks_19 ⟨(Nat.le_of_ble_eq_true rfl), (Nat.le_of_ble_eq_true rfl)⟩ ⟨(Nat.le_of_ble_eq_true rfl), (Nat.le_of_ble_eq_true rfl)⟩ rfl (fun H locs hW hS => ?_)
    rcases hq_3 : (c_X3_layerAt lc mc bc N G (c_X3_layerShown lc mc bc N G (c_X3_placeOf (c_lnk lc mc bc N G x k)))) with _ | i_4
    · refine mt_cV1 (v := .null) (As := [.int (c_X3_layerShown lc mc bc N G (c_X3_placeOf (c_lnk lc mc bc N G x k)))]) (rest := []) S pv_X3_layerAt mw_ml_X3_61 (k_X3_layerAt l hlt g z ad lc mc bc N G o d h6 h8 hb6 (c_X3_layerShown lc mc bc N G (c_X3_placeOf (c_lnk lc mc bc N G x k)))) hC hW hS wc_0 rfl rfl rfl hl.1 rfl (Nat.le_of_ble_eq_true rfl) dX3_endOfLinks_22 ⟨(Nat.le_of_ble_eq_true rfl), (Nat.le_of_ble_eq_true rfl)⟩ ⟨(Nat.le_of_ble_eq_true rfl), (Nat.le_of_ble_eq_true rfl)⟩ (congrArg (a₂ := none) (xr_a ad 100) hq_3) (fun H locs hW hS => ?_)
      refine lv_astoreN (lv' := [(5, .null), (4, .int (c_X3_placeOf (c_lnk lc mc bc N G x k))), (3, .int (nI k)), (2, .int (c_lnk lc mc bc N G x k)), (0, .ref (ad (0)))]) hx hb dX3_endOfLinks_25 hl (by decide) rfl (fun ls hl => ?_)
      refine lv_aloadN hx hb dX3_endOfLinks_27 (lv_at hl 0 rfl) ?_
      refine lv_ifnullN (tgt := 47) hx hb dX3_endOfLinks_29 (by decide) ?_
      refine lv_iload_n hx hb dX3_endOfLinks_47 rfl (lv_at hl 3 rfl) ?_
      exact mt_ri S hr hk hW hS (congrArg xr_i (show c_X3_endOfLinks lc mc bc N G x = .inr (c_lnk lc mc bc N G x k) from hP.trans (by rw [show 5 - k = (5 - (k + 1)) + 1 by omega, c_ends, ocase_n hq_3]))) (Nat.le_of_ble_eq_true rfl) (Nat.le_of_ble_eq_true rfl) dX3_endOfLinks_48
    · refine mt_cV1 (v := .ref (ad (100 + i_4))) (As := [.int (c_X3_layerShown lc mc bc N G (c_X3_placeOf (c_lnk lc mc bc N G x k)))]) (rest := []) S pv_X3_layerAt mw_ml_X3_61 (k_X3_layerAt l hlt g z ad lc mc bc N G o d h6 h8 hb6 (c_X3_layerShown lc mc bc N G (c_X3_placeOf (c_lnk lc mc bc N G x k)))) hC hW hS wc_0 rfl rfl rfl hl.1 rfl (Nat.le_of_ble_eq_true rfl) dX3_endOfLinks_22 ⟨(Nat.le_of_ble_eq_true rfl), (Nat.le_of_ble_eq_true rfl)⟩ ⟨(Nat.le_of_ble_eq_true rfl), (Nat.le_of_ble_eq_true rfl)⟩ (congrArg (a₂ := some i_4) (xr_a ad 100) hq_3) (fun H locs hW hS => ?_)
      have hi_i_4 := c_layerAt_lt hq_3
      refine lv_astore (lv' := [(5, .ref (ad (100 + i_4))), (4, .int (c_X3_placeOf (c_lnk lc mc bc N G x k))), (3, .int (nI k)), (2, .int (c_lnk lc mc bc N G x k)), (0, .ref (ad (0)))]) hx hb dX3_endOfLinks_25 hl (by decide) rfl (fun ls hl => ?_)
      refine lv_aload hx hb dX3_endOfLinks_27 (lv_at hl 0 rfl) ?_
      refine lv_ifnull hx hb dX3_endOfLinks_29 ?_
      refine lv_aload hx hb dX3_endOfLinks_32 (lv_at hl 0 rfl) ?_
      refine lv_aload_n hx hb dX3_endOfLinks_34 rfl (lv_at hl 4 rfl) ?_
      refine lv_iload hx hb dX3_endOfLinks_35 (lv_at hl 1 rfl) ?_
      refine mt_cV1 (As := [.int (c_X3_placeOf (c_lnk lc mc bc N G x k))]) (rest := [.ref (ad (100 + i_4))]) S pv_X3_restAt mw_ml_X3_133 (k_X3_restAt l hlt g z ad lc mc bc N G o d h6 h8 hb6 (c_X3_placeOf (c_lnk lc mc bc N G x k))) hC hW hS wc_0 rfl rfl rfl hl.1 rfl (Nat.le_of_ble_eq_true rfl) dX3_endOfLinks_37 ⟨(Nat.le_of_ble_eq_true rfl), (Nat.le_of_ble_eq_true rfl)⟩ ⟨(Nat.le_of_ble_eq_true rfl), (Nat.le_of_ble_eq_true rfl)⟩ rfl (fun H locs hW hS => ?_)
      refine mt_cV1 (As := [.int (c_X3_restAt lc mc bc N G (c_X3_placeOf (c_lnk lc mc bc N G x k)))]) (rest := []) S pv_X1_kindAt mw_ml_X3_275 (k_X1_kindAt l hlt g z ad lc mc bc N G o d h6 h8 hb6 i_4 (c_X3_restAt lc mc bc N G (c_X3_placeOf (c_lnk lc mc bc N G x k))) hi_i_4) hC hW hS (wc_lay h6 hi_i_4) rfl rfl rfl hl.1 rfl (Nat.le_of_ble_eq_true rfl) dX3_endOfLinks_40 ⟨(Nat.le_of_ble_eq_true rfl), (Nat.le_of_ble_eq_true rfl)⟩ ⟨(Nat.le_of_ble_eq_true rfl), (Nat.le_of_ble_eq_true rfl)⟩ rfl (fun H locs hW hS => ?_)
      refine lv_iconst (v := 2) hx hb dX3_endOfLinks_43 (by decide) ?_
      refine lv_icmp_eq (tgt := 49) hx hb dX3_endOfLinks_44 (by decide) (fun c_5 => ?_) (fun c_5 => ?_)
      · refine lv_aload hx hb dX3_endOfLinks_49 (lv_at hl 0 rfl) ?_
        refine lv_aload_n hx hb dX3_endOfLinks_51 rfl (lv_at hl 4 rfl) ?_
        refine lv_iload hx hb dX3_endOfLinks_52 (lv_at hl 1 rfl) ?_
        refine mt_cV1 (As := [.int (c_X3_placeOf (c_lnk lc mc bc N G x k))]) (rest := [.ref (ad (100 + i_4))]) S pv_X3_restAt mw_ml_X3_133 (k_X3_restAt l hlt g z ad lc mc bc N G o d h6 h8 hb6 (c_X3_placeOf (c_lnk lc mc bc N G x k))) hC hW hS wc_0 rfl rfl rfl hl.1 rfl (Nat.le_of_ble_eq_true rfl) dX3_endOfLinks_54 ⟨(Nat.le_of_ble_eq_true rfl), (Nat.le_of_ble_eq_true rfl)⟩ ⟨(Nat.le_of_ble_eq_true rfl), (Nat.le_of_ble_eq_true rfl)⟩ rfl (fun H locs hW hS => ?_)
        refine mt_cV1 (As := [.int (c_X3_restAt lc mc bc N G (c_X3_placeOf (c_lnk lc mc bc N G x k)))]) (rest := []) S pv_X1_valueAt mw_ml_X3_287 (k_X1_valueAt l hlt g z ad lc mc bc N G o d h6 h8 hb6 i_4 (c_X3_restAt lc mc bc N G (c_X3_placeOf (c_lnk lc mc bc N G x k))) hi_i_4) hC hW hS (wc_lay h6 hi_i_4) rfl rfl rfl hl.1 rfl (Nat.le_of_ble_eq_true rfl) dX3_endOfLinks_57 ⟨(Nat.le_of_ble_eq_true rfl), (Nat.le_of_ble_eq_true rfl)⟩ ⟨(Nat.le_of_ble_eq_true rfl), (Nat.le_of_ble_eq_true rfl)⟩ rfl (fun H locs hW hS => ?_)
        refine lv_istore (lv' := [(6, .int (c_X1_valueAt lc mc bc N G i_4 (c_X3_restAt lc mc bc N G (c_X3_placeOf (c_lnk lc mc bc N G x k))))), (5, .ref (ad (100 + i_4))), (4, .int (c_X3_placeOf (c_lnk lc mc bc N G x k))), (3, .int (nI k)), (2, .int (c_lnk lc mc bc N G x k)), (0, .ref (ad (0)))]) hx hb dX3_endOfLinks_60 hl (by decide) rfl (fun ls hl => ?_)
        refine lv_aload_n hx hb dX3_endOfLinks_62 rfl (lv_at hl 5 rfl) ?_
        refine lv_iload hx hb dX3_endOfLinks_63 (lv_at hl 2 rfl) ?_
        refine lv_iload hx hb dX3_endOfLinks_65 (lv_at hl 0 rfl) ?_
        refine mt_cS1 (As := [.int (c_X1_valueAt lc mc bc N G i_4 (c_X3_restAt lc mc bc N G (c_X3_placeOf (c_lnk lc mc bc N G x k))))]) (rest := [.int (c_X3_placeOf (c_lnk lc mc bc N G x k)), .ref (ad (0))]) S ps_X3_placeOf mw_ml_X3_52 (k_X3_placeOf l hlt g z ad lc mc bc N G o d h6 h8 hb6 (c_X1_valueAt lc mc bc N G i_4 (c_X3_restAt lc mc bc N G (c_X3_placeOf (c_lnk lc mc bc N G x k))))) hC hW hS rfl hl.1 rfl (Nat.le_of_ble_eq_true rfl) dX3_endOfLinks_67 ⟨(Nat.le_of_ble_eq_true rfl), (Nat.le_of_ble_eq_true rfl)⟩ ⟨(Nat.le_of_ble_eq_true rfl), (Nat.le_of_ble_eq_true rfl)⟩ rfl (fun H locs hW hS => ?_)
        refine mt_cV1 (As := [.int (c_X3_placeOf (c_lnk lc mc bc N G x k)), .int (c_X3_placeOf (c_X1_valueAt lc mc bc N G i_4 (c_X3_restAt lc mc bc N G (c_X3_placeOf (c_lnk lc mc bc N G x k)))))]) (rest := []) S pv_X3_mayLead mw_ml_X3_290 (k_X3_mayLead l hlt g z ad lc mc bc N G o d h6 h8 hb6 (c_X3_placeOf (c_lnk lc mc bc N G x k)) (c_X3_placeOf (c_X1_valueAt lc mc bc N G i_4 (c_X3_restAt lc mc bc N G (c_X3_placeOf (c_lnk lc mc bc N G x k)))))) hC hW hS wc_0 rfl rfl rfl hl.1 rfl (Nat.le_of_ble_eq_true rfl) dX3_endOfLinks_70 ⟨(Nat.le_of_ble_eq_true rfl), (Nat.le_of_ble_eq_true rfl)⟩ ⟨(Nat.le_of_ble_eq_true rfl), (Nat.le_of_ble_eq_true rfl)⟩ rfl (fun H locs hW hS => ?_)
        refine lv_if_ne (tgt := 87) hx hb dX3_endOfLinks_73 (by decide) (fun c_6 => ?_) (fun c_6 => ?_)
        · refine lv_iload hx hb dX3_endOfLinks_87 (lv_at hl 0 rfl) ?_
          refine lv_istore_n (lv' := [(2, .int (c_X1_valueAt lc mc bc N G i_4 (c_X3_restAt lc mc bc N G (c_X3_placeOf (c_lnk lc mc bc N G x k))))), (6, .int (c_X1_valueAt lc mc bc N G i_4 (c_X3_restAt lc mc bc N G (c_X3_placeOf (c_lnk lc mc bc N G x k))))), (5, .ref (ad (100 + i_4))), (4, .int (c_X3_placeOf (c_lnk lc mc bc N G x k))), (3, .int (nI k)), (0, .ref (ad (0)))]) hx hb dX3_endOfLinks_89 rfl hl (by decide) rfl (fun ls hl => ?_)
          refine lv_iinc (v := nI (k + 1)) (lv' := [(3, .int (nI (k + 1))), (2, .int (c_X1_valueAt lc mc bc N G i_4 (c_X3_restAt lc mc bc N G (c_X3_placeOf (c_lnk lc mc bc N G x k))))), (6, .int (c_X1_valueAt lc mc bc N G i_4 (c_X3_restAt lc mc bc N G (c_X3_placeOf (c_lnk lc mc bc N G x k))))), (5, .ref (ad (100 + i_4))), (4, .int (c_X3_placeOf (c_lnk lc mc bc N G x k))), (0, .ref (ad (0)))]) hx hb dX3_endOfLinks_90 hl (k := 4) rfl (nI_1 _) (by decide) rfl (fun ls hl => ?_)
          refine lv_goto (tgt := 4) hx hb dX3_endOfLinks_93 (by decide) ?_
          have hl : lv_has ls 7 [(3, .int (nI (k + 1))), (2, .int (c_lnk lc mc bc N G x (k + 1))), (0, .ref (ad (0)))] := by rw [show c_lnk lc mc bc N G x (k + 1) = c_X1_valueAt lc mc bc N G i_4 (c_X3_restAt lc mc bc N G (c_X3_placeOf (c_lnk lc mc bc N G x k))) from (by rw [c_lnk, ocase_s hq_3])]; exact lv_sub hl [0, 1, 5] rfl
          exact ih _ _ _ (hP.trans (by rw [show 5 - k = (5 - (k + 1)) + 1 by omega, c_ends, ocase_s hq_3, if_pos c_5, if_neg c_6])) hW hS hl
        · exact mt_throwW S hlt mp_UOE (List.mem_of_getElem? (i := 13) rfl) hC hW hS hl.1 hout hk (congrArg xr_i (show c_X3_endOfLinks lc mc bc N G x = .inl "java/lang/UnsupportedOperationException" from hP.trans (by rw [show 5 - k = (5 - (k + 1)) + 1 by omega, c_ends, ocase_s hq_3, if_pos c_5, if_pos c_6]))) dX3_endOfLinks_76 dX3_endOfLinks_79 dX3_endOfLinks_80 dX3_endOfLinks_83 dX3_endOfLinks_86 (Nat.le_of_ble_eq_true rfl) (Nat.le_of_ble_eq_true rfl) ⟨(Nat.le_of_ble_eq_true rfl), (Nat.le_of_ble_eq_true rfl)⟩ (Nat.le_of_ble_eq_true rfl) (Nat.le_of_ble_eq_true rfl)
      · refine lv_iload_n hx hb dX3_endOfLinks_47 rfl (lv_at hl 3 rfl) ?_
        exact mt_ri S hr hk hW hS (congrArg xr_i (show c_X3_endOfLinks lc mc bc N G x = .inr (c_lnk lc mc bc N G x k) from hP.trans (by rw [show 5 - k = (5 - (k + 1)) + 1 by omega, c_ends, ocase_s hq_3, if_neg c_5]))) (Nat.le_of_ble_eq_true rfl) (Nat.le_of_ble_eq_true rfl) dX3_endOfLinks_48

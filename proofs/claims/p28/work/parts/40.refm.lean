def c_X4_hidden (lc mc bc : Nat) (N G : Nat → Nat → Int32)  : Int32 := (c_X4_bytesOfAll lc mc bc N G) - (c_X4_bytesShown lc mc bc N G)
def c_X4_hidden_N (lc mc bc : Nat) (N G : Nat → Nat → Int32)  : Nat → Nat → Int32 := mt_gu N 200 15 0
set_option maxRecDepth 100000 in
set_option maxHeartbeats 4000000 in
theorem k_X4_hidden (l : Launch) (hlt : l.stackTraces = false) (g : mt_G) (z : Nat) (ad : Nat → Nat) (lc mc bc : Nat) (N G : Nat → Nat → Int32) (o : Nat → Int64) (d : mt_D) (h6 : lc ≤ 6) (h8 : mc ≤ 8) (hb6 : bc ≤ 6)  (hM : MI N G) : mt_K l g z yX4_hidden cX4_hidden 1 (some .int) 5 117 0 0 [.ref (ad (200))] (mt_wc g ad lc mc bc N G o d) ad (.inr (some (.int (c_X4_hidden lc mc bc N G)))) (mt_wc g ad lc mc bc (c_X4_hidden_N lc mc bc N G) G o d) ad := by
  refine mt_ofW (by decide +kernel) (Nat.le_of_ble_eq_true rfl) ?_
  intro p e s m args below meth c S hr9 hk hnm hout hC hW hS ls hl
  have hr := hr9
  have hx := S.1
  have hb := S.2.1
  have hl : lv_has ls 1 [(0, .ref (ad (200)))] := hl
  refine lv_aload_n hx hb dX4_hidden_0 rfl (lv_at hl 0 rfl) ?_
  refine lv_iconst (v := 0) hx hb dX4_hidden_1 (by decide) ?_
  refine mt_put S iw_X4 tyX4 tyX4_ok nmX4 hC hW hS wc_200 rfl 15 (by decide) mw_fl_X4_44 rfl rfl rfl rfl (Nat.le_of_ble_eq_true rfl) dX4_hidden_2 (fun H locs hW hS => ?_)
  have hW := hW.to (w1 := mt_wc g ad lc mc bc (mt_gu N 200 15 0) G o d) (wc_sett (by decide))
  refine lv_aload_n hx hb dX4_hidden_5 rfl (lv_at hl 0 rfl) ?_
  refine mt_cV1 (As := []) (rest := []) S pv_X4_bytesOfAll mw_ml_X4_141 (k_X4_bytesOfAll l hlt g z ad lc mc bc (mt_gu N 200 15 0) G o d h6 h8 hb6 ) hC hW hS wc_200 rfl rfl rfl hl.1 rfl (Nat.le_of_ble_eq_true rfl) dX4_hidden_6 ⟨(Nat.le_of_ble_eq_true rfl), (Nat.le_of_ble_eq_true rfl)⟩ ⟨(Nat.le_of_ble_eq_true rfl), (Nat.le_of_ble_eq_true rfl)⟩ rfl (fun H locs hW hS => ?_)
  refine mt_te (y := c_X4_bytesOfAll lc mc bc N G) rfl ?_
  refine lv_aload_n hx hb dX4_hidden_9 rfl (lv_at hl 0 rfl) ?_
  refine mt_cV1 (As := []) (rest := [.int (c_X4_bytesOfAll lc mc bc N G)]) S pv_X4_bytesShown mw_ml_X4_145 (k_X4_bytesShown l hlt g z ad lc mc bc (mt_gu N 200 15 0) G o d h6 h8 hb6 (by repeat (first | exact hM | exact hP | apply MI_t))) hC hW hS wc_200 rfl rfl rfl hl.1 rfl (Nat.le_of_ble_eq_true rfl) dX4_hidden_10 ⟨(Nat.le_of_ble_eq_true rfl), (Nat.le_of_ble_eq_true rfl)⟩ ⟨(Nat.le_of_ble_eq_true rfl), (Nat.le_of_ble_eq_true rfl)⟩ rfl (fun H locs hW hS => ?_)
  refine mt_te (y := c_X4_bytesShown lc mc bc N G) bytesShown_t ?_
  refine lv_isub hx hb dX4_hidden_13 ?_
  have hW := hW.to (w1 := mt_wc g ad lc mc bc (c_X4_hidden_N lc mc bc N G) G o d) (by rw [c_X4_hidden_N])
  exact mt_ri S hr hk hW hS (by rw [c_X4_hidden]) (Nat.le_of_ble_eq_true rfl) (Nat.le_of_ble_eq_true rfl) dX4_hidden_14
def c_X4_shownShare (lc mc bc : Nat) (N G : Nat → Nat → Int32)  : UInt32 := if (c_X4_bytesOfAll lc mc bc N G) = 0 then FP.fconst0 else (FP.fdiv (FP.i2f (c_X4_bytesShown lc mc bc N G)) (FP.i2f (c_X4_bytesOfAll lc mc bc N G)))
def c_X4_shownShare_N (lc mc bc : Nat) (N G : Nat → Nat → Int32)  : Nat → Nat → Int32 := if (c_X4_bytesOfAll lc mc bc N G) = 0 then (mt_gu N 200 15 1) else (mt_gu N 200 15 0)
set_option maxRecDepth 100000 in
set_option maxHeartbeats 4000000 in
theorem k_X4_shownShare (l : Launch) (hlt : l.stackTraces = false) (g : mt_G) (z : Nat) (ad : Nat → Nat) (lc mc bc : Nat) (N G : Nat → Nat → Int32) (o : Nat → Int64) (d : mt_D) (h6 : lc ≤ 6) (h8 : mc ≤ 8) (hb6 : bc ≤ 6)  (hM : MI N G) : mt_K l g z yX4_shownShare cX4_shownShare 2 (some .float) 5 117 0 0 [.ref (ad (200))] (mt_wc g ad lc mc bc N G o d) ad (.inr (some (.float (c_X4_shownShare lc mc bc N G)))) (mt_wc g ad lc mc bc (c_X4_shownShare_N lc mc bc N G) G o d) ad := by
  refine mt_ofW (by decide +kernel) (Nat.le_of_ble_eq_true rfl) ?_
  intro p e s m args below meth c S hr9 hk hnm hout hC hW hS ls hl
  have hr := hr9
  have hx := S.1
  have hb := S.2.1
  have hl : lv_has ls 2 [(0, .ref (ad (200)))] := hl
  refine lv_aload_n hx hb dX4_shownShare_0 rfl (lv_at hl 0 rfl) ?_
  refine mt_cV1 (As := []) (rest := []) S pv_X4_bytesOfAll mw_ml_X4_141 (k_X4_bytesOfAll l hlt g z ad lc mc bc N G o d h6 h8 hb6 ) hC hW hS wc_200 rfl rfl rfl hl.1 rfl (Nat.le_of_ble_eq_true rfl) dX4_shownShare_1 ⟨(Nat.le_of_ble_eq_true rfl), (Nat.le_of_ble_eq_true rfl)⟩ ⟨(Nat.le_of_ble_eq_true rfl), (Nat.le_of_ble_eq_true rfl)⟩ rfl (fun H locs hW hS => ?_)
  refine lv_istore_n (lv' := [(1, .int (c_X4_bytesOfAll lc mc bc N G)), (0, .ref (ad (200)))]) hx hb dX4_shownShare_4 rfl hl (by decide) rfl (fun ls hl => ?_)
  refine lv_aload_n hx hb dX4_shownShare_5 rfl (lv_at hl 1 rfl) ?_
  refine lv_iload_n hx hb dX4_shownShare_6 rfl (lv_at hl 0 rfl) ?_
  refine lv_if_ne (tgt := 14) hx hb dX4_shownShare_7 (by decide) (fun c_1 => ?_) (fun c_1 => ?_)
  · refine lv_iconst (v := 0) hx hb dX4_shownShare_14 (by decide) ?_
    refine mt_put S iw_X4 tyX4 tyX4_ok nmX4 hC hW hS wc_200 rfl 15 (by decide) mw_fl_X4_44 rfl rfl rfl rfl (Nat.le_of_ble_eq_true rfl) dX4_shownShare_15 (fun H locs hW hS => ?_)
    have hW := hW.to (w1 := mt_wc g ad lc mc bc (mt_gu N 200 15 0) G o d) (wc_sett (by decide))
    refine lv_aload_n hx hb dX4_shownShare_18 rfl (lv_at hl 1 rfl) ?_
    refine mt_get S iw_X4 hC hW wc_200 rfl 15 (by decide) mw_fl_X4_44 rfl rfl dX4_shownShare_19 ?_
    refine mt_te (y := 0) rfl ?_
    refine lv_if_ne (tgt := 36) hx hb dX4_shownShare_22 (by decide) (fun c_2 => absurd (by decide) c_2) (fun c_2 => ?_)
    refine lv_aload_n hx hb dX4_shownShare_25 rfl (lv_at hl 1 rfl) ?_
    refine mt_cV1 (As := []) (rest := []) S pv_X4_bytesShown mw_ml_X4_145 (k_X4_bytesShown l hlt g z ad lc mc bc (mt_gu N 200 15 0) G o d h6 h8 hb6 (by repeat (first | exact hM | exact hP | apply MI_t))) hC hW hS wc_200 rfl rfl rfl hl.1 rfl (Nat.le_of_ble_eq_true rfl) dX4_shownShare_26 ⟨(Nat.le_of_ble_eq_true rfl), (Nat.le_of_ble_eq_true rfl)⟩ ⟨(Nat.le_of_ble_eq_true rfl), (Nat.le_of_ble_eq_true rfl)⟩ rfl (fun H locs hW hS => ?_)
    refine mt_te (y := c_X4_bytesShown lc mc bc N G) bytesShown_t ?_
    refine lv_i2f hx hb dX4_shownShare_29 ?_
    refine lv_iload_n hx hb dX4_shownShare_30 rfl (lv_at hl 0 rfl) ?_
    refine lv_i2f hx hb dX4_shownShare_31 ?_
    refine lv_fdiv hx hb dX4_shownShare_32 (nn_f _ _ c_1) ?_
    refine lv_goto (tgt := 37) hx hb dX4_shownShare_33 (by decide) ?_
    have hW := hW.to (w1 := mt_wc g ad lc mc bc (c_X4_shownShare_N lc mc bc N G) G o d) (by rw [c_X4_shownShare_N, if_neg c_1])
    exact mt_rf S hr hk hW hS (by rw [c_X4_shownShare, if_neg c_1]) (Nat.le_of_ble_eq_true rfl) (Nat.le_of_ble_eq_true rfl) dX4_shownShare_37
  · refine lv_iconst (v := 1) hx hb dX4_shownShare_10 (by decide) ?_
    refine lv_goto (tgt := 15) hx hb dX4_shownShare_11 (by decide) ?_
    refine mt_put S iw_X4 tyX4 tyX4_ok nmX4 hC hW hS wc_200 rfl 15 (by decide) mw_fl_X4_44 rfl rfl rfl rfl (Nat.le_of_ble_eq_true rfl) dX4_shownShare_15 (fun H locs hW hS => ?_)
    have hW := hW.to (w1 := mt_wc g ad lc mc bc (mt_gu N 200 15 1) G o d) (wc_sett (by decide))
    refine lv_aload_n hx hb dX4_shownShare_18 rfl (lv_at hl 1 rfl) ?_
    refine mt_get S iw_X4 hC hW wc_200 rfl 15 (by decide) mw_fl_X4_44 rfl rfl dX4_shownShare_19 ?_
    refine mt_te (y := 1) rfl ?_
    refine lv_if_ne (tgt := 36) hx hb dX4_shownShare_22 (by decide) (fun c_3 => ?_) (fun c_3 => absurd c_3 (by decide))
    refine lv_fconst0 hx hb dX4_shownShare_36 ?_
    have hW := hW.to (w1 := mt_wc g ad lc mc bc (c_X4_shownShare_N lc mc bc N G) G o d) (by rw [c_X4_shownShare_N, if_pos c_1])
    exact mt_rf S hr hk hW hS (by rw [c_X4_shownShare, if_pos c_1]) (Nat.le_of_ble_eq_true rfl) (Nat.le_of_ble_eq_true rfl) dX4_shownShare_37
def c_X4_meanSize_ls (G : Nat → Nat → Int32) (x : Int32) : Nat → Int32
  | 0 => 0
  | k + 1 => if (G 201 (341 * x.toNatClampNeg + k)) = 1 then ((c_X4_meanSize_ls G x k) + (G 203 (341 * x.toNatClampNeg + k))) else ((c_X4_meanSize_ls G x k) + 0)
def c_X4_meanSize (lc mc bc : Nat) (N G : Nat → Nat → Int32) (x : Int32) : UInt64 := if (c_X4_isLayer lc mc bc N G x) = 0 then FP.dconst0 else (if (c_X4_count lc mc bc N G x 1) = 0 then FP.dconst0 else (FP.ddiv (FP.i2d (c_X4_meanSize_ls G x 341)) (FP.i2d (c_X4_count lc mc bc N G x 1))))
def c_X4_meanSize_N (lc mc bc : Nat) (N G : Nat → Nat → Int32) (x : Int32) : Nat → Nat → Int32 := if (c_X4_isLayer lc mc bc N G x) = 0 then (mt_gu N 200 15 1) else (if (c_X4_count lc mc bc N G x 1) = 0 then (mt_gu N 200 15 2) else (mt_gu N 200 15 0))
set_option maxRecDepth 100000 in
set_option maxHeartbeats 4000000 in
theorem k_X4_meanSize (l : Launch) (hlt : l.stackTraces = false) (g : mt_G) (z : Nat) (ad : Nat → Nat) (lc mc bc : Nat) (N G : Nat → Nat → Int32) (o : Nat → Int64) (d : mt_D) (h6 : lc ≤ 6) (h8 : mc ≤ 8) (hb6 : bc ≤ 6) (x : Int32) (hM : MI N G) : mt_K l g z yX4_meanSize cX4_meanSize 4 (some .double) 2 46 0 0 [.ref (ad (200)), .int x] (mt_wc g ad lc mc bc N G o d) ad (.inr (some (.double (c_X4_meanSize lc mc bc N G x)))) (mt_wc g ad lc mc bc (c_X4_meanSize_N lc mc bc N G x) G o d) ad := by
  refine mt_ofW (by decide +kernel) (Nat.le_of_ble_eq_true rfl) ?_
  intro p e s m args below meth c S hr9 hk hnm hout hC hW hS ls hl
  have hr := hr9
  have hx := S.1
  have hb := S.2.1
  have hl : lv_has ls 4 [(0, .ref (ad (200))), (1, .int (x))] := hl
  refine lv_aload_n hx hb dX4_meanSize_0 rfl (lv_at hl 0 rfl) ?_
  refine lv_aload_n hx hb dX4_meanSize_1 rfl (lv_at hl 0 rfl) ?_
  refine lv_iload_n hx hb dX4_meanSize_2 rfl (lv_at hl 1 rfl) ?_
  refine mt_cV1 (As := [.int (x)]) (rest := [.ref (ad (200))]) S pv_X4_isLayer mw_ml_X4_74 (k_X4_isLayer l hlt g z ad lc mc bc N G o d h6 h8 hb6 x) hC hW hS wc_200 rfl rfl rfl hl.1 rfl (Nat.le_of_ble_eq_true rfl) dX4_meanSize_3 ⟨(Nat.le_of_ble_eq_true rfl), (Nat.le_of_ble_eq_true rfl)⟩ ⟨(Nat.le_of_ble_eq_true rfl), (Nat.le_of_ble_eq_true rfl)⟩ rfl (fun H locs hW hS => ?_)
  refine lv_if_eq (tgt := 13) hx hb dX4_meanSize_6 (by decide) (fun c_1 => ?_) (fun c_1 => ?_)
  · refine lv_iconst (v := 1) hx hb dX4_meanSize_13 (by decide) ?_
    refine mt_put S iw_X4 tyX4 tyX4_ok nmX4 hC hW hS wc_200 rfl 15 (by decide) mw_fl_X4_44 rfl rfl rfl rfl (Nat.le_of_ble_eq_true rfl) dX4_meanSize_14 (fun H locs hW hS => ?_)
    have hW := hW.to (w1 := mt_wc g ad lc mc bc (mt_gu N 200 15 1) G o d) (wc_sett (by decide))
    refine lv_aload_n hx hb dX4_meanSize_17 rfl (lv_at hl 0 rfl) ?_
    refine mt_get S iw_X4 hC hW wc_200 rfl 15 (by decide) mw_fl_X4_44 rfl rfl dX4_meanSize_18 ?_
    refine mt_te (y := 1) rfl ?_
    refine lv_if_le (tgt := 26) hx hb dX4_meanSize_21 (by decide) (fun c_2 => absurd c_2 (by decide)) (fun c_2 => ?_)
    refine lv_dconst0 hx hb dX4_meanSize_24 ?_
    have hW := hW.to (w1 := mt_wc g ad lc mc bc (c_X4_meanSize_N lc mc bc N G x) G o d) (by rw [c_X4_meanSize_N, if_pos c_1])
    exact mt_rd S hr hk hW hS (by rw [c_X4_meanSize, if_pos c_1]) (Nat.le_of_ble_eq_true rfl) (Nat.le_of_ble_eq_true rfl) dX4_meanSize_25
  · refine lv_iconst (v := 0) hx hb dX4_meanSize_9 (by decide) ?_
    refine lv_goto (tgt := 14) hx hb dX4_meanSize_10 (by decide) ?_
    refine mt_put S iw_X4 tyX4 tyX4_ok nmX4 hC hW hS wc_200 rfl 15 (by decide) mw_fl_X4_44 rfl rfl rfl rfl (Nat.le_of_ble_eq_true rfl) dX4_meanSize_14 (fun H locs hW hS => ?_)
    have hW := hW.to (w1 := mt_wc g ad lc mc bc (mt_gu N 200 15 0) G o d) (wc_sett (by decide))
    refine lv_aload_n hx hb dX4_meanSize_17 rfl (lv_at hl 0 rfl) ?_
    refine mt_get S iw_X4 hC hW wc_200 rfl 15 (by decide) mw_fl_X4_44 rfl rfl dX4_meanSize_18 ?_
    refine mt_te (y := 0) rfl ?_
    refine lv_if_le (tgt := 26) hx hb dX4_meanSize_21 (by decide) (fun c_3 => ?_) (fun c_3 => absurd (by decide) c_3)
    refine lv_iconst (v := 0) hx hb dX4_meanSize_26 (by decide) ?_
    refine lv_istore_n (lv' := [(2, .int (0)), (0, .ref (ad (200))), (1, .int (x))]) hx hb dX4_meanSize_27 rfl hl (by decide) rfl (fun ls hl => ?_)
    refine lv_sipush (v := 341) hx hb dX4_meanSize_28 (by decide) ?_
    refine lv_iload_n hx hb dX4_meanSize_31 rfl (lv_at hl 2 rfl) ?_
    refine lv_imul hx hb dX4_meanSize_32 ?_
    refine lv_istore_n (lv' := [(3, .int (341 * x)), (2, .int (0)), (0, .ref (ad (200))), (1, .int (x))]) hx hb dX4_meanSize_33 rfl hl (by decide) rfl (fun ls hl => ?_)
    have hl : lv_has ls 4 [(2, .int (c_X4_meanSize_ls G x 0)), (3, .int (nI (341 * x.toNatClampNeg + 0))), (0, .ref (ad (200))), (1, .int (x))] := by rw [show nI (341 * x.toNatClampNeg + 0) = 341 * x from ct_0 (il_1 hM c_1)]; exact lv_sub hl [1, 0, 2, 3] rfl
    refine lp_up 341 (fun k => mt_wc g ad lc mc bc (mt_gu N 200 15 0) G o d) (fun k => [(2, .int (c_X4_meanSize_ls G x k)), (3, .int (nI (341 * x.toNatClampNeg + k))), (0, .ref (ad (200))), (1, .int (x))]) (fun _ => True) 0 (by omega) trivial hW hS hl (fun H locs ls hP hW hS hl => ?_) (fun k H locs ls hk0 hkn hP hW hS hl ih => ?_)
    · have hW : mt_W g z (mt_wc g ad lc mc bc (mt_gu N 200 15 0) G o d) ad _ := hW
      have hl : lv_has ls 4 [(2, .int (c_X4_meanSize_ls G x 341)), (3, .int (nI (341 * x.toNatClampNeg + 341))), (0, .ref (ad (200))), (1, .int (x))] := hl
      refine lv_iload_n hx hb dX4_meanSize_34 rfl (lv_at hl 1 rfl) ?_
      refine lv_sipush (v := 341) hx hb dX4_meanSize_35 (by decide) ?_
      refine lv_iload_n hx hb dX4_meanSize_38 rfl (lv_at hl 3 rfl) ?_
      refine lv_imul hx hb dX4_meanSize_39 ?_
      refine lv_sipush (v := 341) hx hb dX4_meanSize_40 (by decide) ?_
      refine lv_iadd hx hb dX4_meanSize_43 ?_
      refine lv_icmp_ge (tgt := 76) hx hb dX4_meanSize_44 (by decide) (fun c_4 => ?_) (fun c_4 => absurd (ct_e (il_1 hM c_1)) c_4)
      refine lv_aload_n hx hb dX4_meanSize_76 rfl (lv_at hl 2 rfl) ?_
      refine lv_iload_n hx hb dX4_meanSize_77 rfl (lv_at hl 3 rfl) ?_
      refine lv_iconst (v := 1) hx hb dX4_meanSize_78 (by decide) ?_
      refine mt_cV1 (As := [.int (x), .int (1)]) (rest := []) S pv_X4_count mw_ml_X4_148 (k_X4_count l hlt g z ad lc mc bc (mt_gu N 200 15 0) G o d h6 h8 hb6 x 1 (il_1 hM c_1) (il_2 hM c_1)) hC hW hS wc_200 rfl rfl rfl hl.1 rfl (Nat.le_of_ble_eq_true rfl) dX4_meanSize_79 ⟨(Nat.le_of_ble_eq_true rfl), (Nat.le_of_ble_eq_true rfl)⟩ ⟨(Nat.le_of_ble_eq_true rfl), (Nat.le_of_ble_eq_true rfl)⟩ rfl (fun H locs hW hS => ?_)
      refine mt_te (y := c_X4_count lc mc bc N G x 1) rfl ?_
      refine lv_istore_n (lv' := [(3, .int (c_X4_count lc mc bc N G x 1)), (2, .int (c_X4_meanSize_ls G x 341)), (0, .ref (ad (200))), (1, .int (x))]) hx hb dX4_meanSize_82 rfl hl (by decide) rfl (fun ls hl => ?_)
      refine lv_aload_n hx hb dX4_meanSize_83 rfl (lv_at hl 2 rfl) ?_
      refine lv_iload_n hx hb dX4_meanSize_84 rfl (lv_at hl 0 rfl) ?_
      refine lv_if_ne (tgt := 92) hx hb dX4_meanSize_85 (by decide) (fun c_5 => ?_) (fun c_5 => ?_)
      · refine lv_iconst (v := 0) hx hb dX4_meanSize_92 (by decide) ?_
        refine mt_put S iw_X4 tyX4 tyX4_ok nmX4 hC hW hS wc_200 rfl 15 (by decide) mw_fl_X4_44 rfl rfl rfl rfl (Nat.le_of_ble_eq_true rfl) dX4_meanSize_93 (fun H locs hW hS => ?_)
        have hW := hW.to (w1 := mt_wc g ad lc mc bc (mt_gu N 200 15 0) G o d) ((wc_sett (by decide)).trans (by rw [mt_gu2]))
        refine lv_aload_n hx hb dX4_meanSize_96 rfl (lv_at hl 2 rfl) ?_
        refine mt_get S iw_X4 hC hW wc_200 rfl 15 (by decide) mw_fl_X4_44 rfl rfl dX4_meanSize_97 ?_
        refine mt_te (y := 0) rfl ?_
        refine lv_if_ne (tgt := 111) hx hb dX4_meanSize_100 (by decide) (fun c_6 => absurd (by decide) c_6) (fun c_6 => ?_)
        refine lv_iload_n hx hb dX4_meanSize_103 rfl (lv_at hl 1 rfl) ?_
        refine lv_i2d hx hb dX4_meanSize_104 ?_
        refine lv_iload_n hx hb dX4_meanSize_105 rfl (lv_at hl 0 rfl) ?_
        refine lv_i2d hx hb dX4_meanSize_106 ?_
        refine lv_ddiv hx hb dX4_meanSize_107 (nn_d _ _ c_5) ?_
        refine lv_goto (tgt := 112) hx hb dX4_meanSize_108 (by decide) ?_
        have hW := hW.to (w1 := mt_wc g ad lc mc bc (c_X4_meanSize_N lc mc bc N G x) G o d) (by rw [c_X4_meanSize_N, if_neg c_1, if_neg c_5])
        exact mt_rd S hr hk hW hS (by rw [c_X4_meanSize, if_neg c_1, if_neg c_5]) (Nat.le_of_ble_eq_true rfl) (Nat.le_of_ble_eq_true rfl) dX4_meanSize_112
      · refine lv_iconst (v := 2) hx hb dX4_meanSize_88 (by decide) ?_
        refine lv_goto (tgt := 93) hx hb dX4_meanSize_89 (by decide) ?_
        refine mt_put S iw_X4 tyX4 tyX4_ok nmX4 hC hW hS wc_200 rfl 15 (by decide) mw_fl_X4_44 rfl rfl rfl rfl (Nat.le_of_ble_eq_true rfl) dX4_meanSize_93 (fun H locs hW hS => ?_)
        have hW := hW.to (w1 := mt_wc g ad lc mc bc (mt_gu N 200 15 2) G o d) ((wc_sett (by decide)).trans (by rw [mt_gu2]))
        refine lv_aload_n hx hb dX4_meanSize_96 rfl (lv_at hl 2 rfl) ?_
        refine mt_get S iw_X4 hC hW wc_200 rfl 15 (by decide) mw_fl_X4_44 rfl rfl dX4_meanSize_97 ?_
        refine mt_te (y := 2) rfl ?_
        refine lv_if_ne (tgt := 111) hx hb dX4_meanSize_100 (by decide) (fun c_7 => ?_) (fun c_7 => absurd c_7 (by decide))
        refine lv_dconst0 hx hb dX4_meanSize_111 ?_
        have hW := hW.to (w1 := mt_wc g ad lc mc bc (c_X4_meanSize_N lc mc bc N G x) G o d) (by rw [c_X4_meanSize_N, if_neg c_1, if_pos c_5])
        exact mt_rd S hr hk hW hS (by rw [c_X4_meanSize, if_neg c_1, if_pos c_5]) (Nat.le_of_ble_eq_true rfl) (Nat.le_of_ble_eq_true rfl) dX4_meanSize_112
    · have hW : mt_W g z (mt_wc g ad lc mc bc (mt_gu N 200 15 0) G o d) ad _ := hW
      have hl : lv_has ls 4 [(2, .int (c_X4_meanSize_ls G x k)), (3, .int (nI (341 * x.toNatClampNeg + k))), (0, .ref (ad (200))), (1, .int (x))] := hl
      refine lv_iload_n hx hb dX4_meanSize_34 rfl (lv_at hl 1 rfl) ?_
      refine lv_sipush (v := 341) hx hb dX4_meanSize_35 (by decide) ?_
      refine lv_iload_n hx hb dX4_meanSize_38 rfl (lv_at hl 3 rfl) ?_
      refine lv_imul hx hb dX4_meanSize_39 ?_
      refine lv_sipush (v := 341) hx hb dX4_meanSize_40 (by decide) ?_
      refine lv_iadd hx hb dX4_meanSize_43 ?_
      refine lv_icmp_ge (tgt := 76) hx hb dX4_meanSize_44 (by decide) (fun c_8 => absurd c_8 (ct_b (il_1 hM c_1) (il_2 hM c_1) hkn)) (fun c_8 => ?_)
      refine lv_iload_n hx hb dX4_meanSize_47 rfl (lv_at hl 0 rfl) ?_
      refine lv_aload_n hx hb dX4_meanSize_48 rfl (lv_at hl 2 rfl) ?_
      refine mt_get S iw_X4 hC hW wc_200 rfl 0 (by decide) mw_fl_X4_7 rfl rfl dX4_meanSize_49 ?_
      refine lv_iload_n hx hb dX4_meanSize_52 rfl (lv_at hl 1 rfl) ?_
      refine wk_ialn S hC hW ar_201 (341 * x.toNatClampNeg + k) rfl (by have := il_2 hM c_1; omega) (by decide) dX4_meanSize_53 ?_
      refine lv_iconst (v := 1) hx hb dX4_meanSize_54 (by decide) ?_
      refine lv_icmp_ne (tgt := 67) hx hb dX4_meanSize_55 (by decide) (fun c_9 => ?_) (fun c_9 => ?_)
      · refine lv_iconst (v := 0) hx hb dX4_meanSize_67 (by decide) ?_
        refine lv_iadd hx hb dX4_meanSize_68 ?_
        refine lv_istore_n (lv' := [(2, .int ((c_X4_meanSize_ls G x k) + 0)), (3, .int (nI (341 * x.toNatClampNeg + k))), (0, .ref (ad (200))), (1, .int (x))]) hx hb dX4_meanSize_69 rfl hl (by decide) rfl (fun ls hl => ?_)
        refine lv_iinc (v := nI ((341 * x.toNatClampNeg + k) + 1)) (lv' := [(3, .int (nI ((341 * x.toNatClampNeg + k) + 1))), (2, .int ((c_X4_meanSize_ls G x k) + 0)), (0, .ref (ad (200))), (1, .int (x))]) hx hb dX4_meanSize_70 hl (k := 1) rfl (nI_1 _) (by decide) rfl (fun ls hl => ?_)
        refine lv_goto (tgt := 34) hx hb dX4_meanSize_73 (by decide) ?_
        have hl : lv_has ls 4 [(2, .int (c_X4_meanSize_ls G x (k + 1))), (3, .int (nI (341 * x.toNatClampNeg + (k + 1)))), (0, .ref (ad (200))), (1, .int (x))] := by rw [show c_X4_meanSize_ls G x (k + 1) = (c_X4_meanSize_ls G x k) + 0 from (by rw [c_X4_meanSize_ls, if_neg c_9])]; exact lv_sub hl [1, 0, 2, 3] rfl
        exact ih _ _ _ trivial hW hS hl
      · refine lv_aload_n hx hb dX4_meanSize_58 rfl (lv_at hl 2 rfl) ?_
        refine mt_get S iw_X4 hC hW wc_200 rfl 2 (by decide) mw_fl_X4_16 rfl rfl dX4_meanSize_59 ?_
        refine lv_iload_n hx hb dX4_meanSize_62 rfl (lv_at hl 1 rfl) ?_
        refine wk_ialn S hC hW ar_203 (341 * x.toNatClampNeg + k) rfl (by have := il_2 hM c_1; omega) (by decide) dX4_meanSize_63 ?_
        refine lv_goto (tgt := 68) hx hb dX4_meanSize_64 (by decide) ?_
        refine lv_iadd hx hb dX4_meanSize_68 ?_
        refine lv_istore_n (lv' := [(2, .int ((c_X4_meanSize_ls G x k) + (G 203 (341 * x.toNatClampNeg + k)))), (3, .int (nI (341 * x.toNatClampNeg + k))), (0, .ref (ad (200))), (1, .int (x))]) hx hb dX4_meanSize_69 rfl hl (by decide) rfl (fun ls hl => ?_)
        refine lv_iinc (v := nI ((341 * x.toNatClampNeg + k) + 1)) (lv' := [(3, .int (nI ((341 * x.toNatClampNeg + k) + 1))), (2, .int ((c_X4_meanSize_ls G x k) + (G 203 (341 * x.toNatClampNeg + k)))), (0, .ref (ad (200))), (1, .int (x))]) hx hb dX4_meanSize_70 hl (k := 1) rfl (nI_1 _) (by decide) rfl (fun ls hl => ?_)
        refine lv_goto (tgt := 34) hx hb dX4_meanSize_73 (by decide) ?_
        have hl : lv_has ls 4 [(2, .int (c_X4_meanSize_ls G x (k + 1))), (3, .int (nI (341 * x.toNatClampNeg + (k + 1)))), (0, .ref (ad (200))), (1, .int (x))] := by rw [show c_X4_meanSize_ls G x (k + 1) = (c_X4_meanSize_ls G x k) + (G 203 (341 * x.toNatClampNeg + k)) from (by rw [c_X4_meanSize_ls, if_pos c_9])]; exact lv_sub hl [1, 0, 2, 3] rfl
        exact ih _ _ _ trivial hW hS hl
def c_X4_nowAt (lc mc bc : Nat) (N G : Nat → Nat → Int32) (b : Int32) (x : Int32) : Int32 := if b = 0 then (if (G 201 x.toNatClampNeg) = 1 then ((G 203 x.toNatClampNeg) + 1) else 0) else (if x < 1 then 0 else (if 341 ≤ x then 0 else (if (c_X4_shown lc mc bc N G (c_X4_pathOf x)) = (-1) then 0 else (if (G 201 (c_X4_shown lc mc bc N G (c_X4_pathOf x)).toNatClampNeg) = 1 then ((G 203 (c_X4_shown lc mc bc N G (c_X4_pathOf x)).toNatClampNeg) + 1) else 0))))
set_option maxRecDepth 100000 in
set_option maxHeartbeats 4000000 in
theorem k_X4_nowAt (l : Launch) (hlt : l.stackTraces = false) (g : mt_G) (z : Nat) (ad : Nat → Nat) (lc mc bc : Nat) (N G : Nat → Nat → Int32) (o : Nat → Int64) (d : mt_D) (h6 : lc ≤ 6) (h8 : mc ≤ 8) (hb6 : bc ≤ 6) (b : Int32) (x : Int32) (hM : MI N G) (hx3 : vp_in x 2046) : mt_K l g z yX4_nowAt cX4_nowAt 4 (some .int) 4 93 0 0 [.ref (ad (200)), .int b, .int x] (mt_wc g ad lc mc bc N G o d) ad (.inr (some (.int (c_X4_nowAt lc mc bc N G b x)))) (mt_wc g ad lc mc bc N G o d) ad := by
  refine mt_ofW (by decide +kernel) (Nat.le_of_ble_eq_true rfl) ?_
  intro p e s m args below meth c S hr9 hk hnm hout hC hW hS ls hl
  have hr := hr9
  have hx := S.1
  have hb := S.2.1
  have hl : lv_has ls 4 [(0, .ref (ad (200))), (1, .int (b)), (2, .int (x))] := hl
  refine lv_iload_n hx hb dX4_nowAt_0 rfl (lv_at hl 1 rfl) ?_
  refine lv_if_ne (tgt := 27) hx hb dX4_nowAt_1 (by decide) (fun c_1 => ?_) (fun c_1 => ?_)
  · refine lv_iload_n hx hb dX4_nowAt_27 rfl (lv_at hl 2 rfl) ?_
    refine lv_iconst (v := 1) hx hb dX4_nowAt_28 (by decide) ?_
    refine lv_icmp_lt (tgt := 50) hx hb dX4_nowAt_29 (by decide) (fun c_2 => ?_) (fun c_2 => ?_)
    · refine lv_iconst (v := -1) hx hb dX4_nowAt_50 (by decide) ?_
      refine lv_istore_n (lv' := [(3, .int (-1)), (0, .ref (ad (200))), (1, .int (b)), (2, .int (x))]) hx hb dX4_nowAt_51 rfl hl (by decide) rfl (fun ls hl => ?_)
      refine lv_iload_n hx hb dX4_nowAt_52 rfl (lv_at hl 0 rfl) ?_
      refine lv_iconst (v := -1) hx hb dX4_nowAt_53 (by decide) ?_
      refine lv_icmp_eq (tgt := 78) hx hb dX4_nowAt_54 (by decide) (fun c_3 => ?_) (fun c_3 => absurd (by decide) c_3)
      refine lv_iconst (v := 0) hx hb dX4_nowAt_78 (by decide) ?_
      exact mt_ri S hr hk hW hS (by rw [c_X4_nowAt, if_neg c_1, if_pos c_2]) (Nat.le_of_ble_eq_true rfl) (Nat.le_of_ble_eq_true rfl) dX4_nowAt_79
    · refine lv_iload_n hx hb dX4_nowAt_32 rfl (lv_at hl 2 rfl) ?_
      refine lv_sipush (v := 341) hx hb dX4_nowAt_33 (by decide) ?_
      refine lv_icmp_ge (tgt := 50) hx hb dX4_nowAt_36 (by decide) (fun c_4 => ?_) (fun c_4 => ?_)
      · refine lv_iconst (v := -1) hx hb dX4_nowAt_50 (by decide) ?_
        refine lv_istore_n (lv' := [(3, .int (-1)), (0, .ref (ad (200))), (1, .int (b)), (2, .int (x))]) hx hb dX4_nowAt_51 rfl hl (by decide) rfl (fun ls hl => ?_)
        refine lv_iload_n hx hb dX4_nowAt_52 rfl (lv_at hl 0 rfl) ?_
        refine lv_iconst (v := -1) hx hb dX4_nowAt_53 (by decide) ?_
        refine lv_icmp_eq (tgt := 78) hx hb dX4_nowAt_54 (by decide) (fun c_5 => ?_) (fun c_5 => absurd (by decide) c_5)
        refine lv_iconst (v := 0) hx hb dX4_nowAt_78 (by decide) ?_
        exact mt_ri S hr hk hW hS (by rw [c_X4_nowAt, if_neg c_1, if_neg c_2, if_pos c_4]) (Nat.le_of_ble_eq_true rfl) (Nat.le_of_ble_eq_true rfl) dX4_nowAt_79
      · refine lv_aload_n hx hb dX4_nowAt_39 rfl (lv_at hl 0 rfl) ?_
        refine lv_iload_n hx hb dX4_nowAt_40 rfl (lv_at hl 2 rfl) ?_
        refine mt_cS1 (As := [.int (x)]) (rest := [.ref (ad (200))]) S ps_X4_pathOf mw_ml_X4_93 (k_X4_pathOf l hlt g z ad lc mc bc N G o d h6 h8 hb6 x (isR_of c_2 c_4)) hC hW hS rfl hl.1 rfl (Nat.le_of_ble_eq_true rfl) dX4_nowAt_41 ⟨(Nat.le_of_ble_eq_true rfl), (Nat.le_of_ble_eq_true rfl)⟩ ⟨(Nat.le_of_ble_eq_true rfl), (Nat.le_of_ble_eq_true rfl)⟩ rfl (fun H locs hW hS => ?_)
        refine mt_cV1 (As := [.int (c_X4_pathOf x)]) (rest := []) S pv_X4_shown mw_ml_X4_107 (k_X4_shown l hlt g z ad lc mc bc N G o d h6 h8 hb6 (c_X4_pathOf x) (by repeat (first | exact hM | exact hP | apply MI_t)) (pathOf_P (isR_of c_2 c_4)).1) hC hW hS wc_200 rfl rfl rfl hl.1 rfl (Nat.le_of_ble_eq_true rfl) dX4_nowAt_44 ⟨(Nat.le_of_ble_eq_true rfl), (Nat.le_of_ble_eq_true rfl)⟩ ⟨(Nat.le_of_ble_eq_true rfl), (Nat.le_of_ble_eq_true rfl)⟩ rfl (fun H locs hW hS => ?_)
        refine lv_goto (tgt := 51) hx hb dX4_nowAt_47 (by decide) ?_
        refine lv_istore_n (lv' := [(3, .int (c_X4_shown lc mc bc N G (c_X4_pathOf x))), (0, .ref (ad (200))), (1, .int (b)), (2, .int (x))]) hx hb dX4_nowAt_51 rfl hl (by decide) rfl (fun ls hl => ?_)
        refine lv_iload_n hx hb dX4_nowAt_52 rfl (lv_at hl 0 rfl) ?_
        refine lv_iconst (v := -1) hx hb dX4_nowAt_53 (by decide) ?_
        refine lv_icmp_eq (tgt := 78) hx hb dX4_nowAt_54 (by decide) (fun c_6 => ?_) (fun c_6 => ?_)
        · refine lv_iconst (v := 0) hx hb dX4_nowAt_78 (by decide) ?_
          exact mt_ri S hr hk hW hS (by rw [c_X4_nowAt, if_neg c_1, if_neg c_2, if_neg c_4, if_pos c_6]) (Nat.le_of_ble_eq_true rfl) (Nat.le_of_ble_eq_true rfl) dX4_nowAt_79
        · refine lv_aload_n hx hb dX4_nowAt_57 rfl (lv_at hl 1 rfl) ?_
          refine mt_get S iw_X4 hC hW wc_200 rfl 0 (by decide) mw_fl_X4_7 rfl rfl dX4_nowAt_58 ?_
          refine lv_iload_n hx hb dX4_nowAt_61 rfl (lv_at hl 0 rfl) ?_
          refine wk_iald S hC hW ar_201 (sh_in hM (pathOf_P (isR_of c_2 c_4)).1 c_6) dX4_nowAt_62 ?_
          refine lv_iconst (v := 1) hx hb dX4_nowAt_63 (by decide) ?_
          refine lv_icmp_ne (tgt := 78) hx hb dX4_nowAt_64 (by decide) (fun c_7 => ?_) (fun c_7 => ?_)
          · refine lv_iconst (v := 0) hx hb dX4_nowAt_78 (by decide) ?_
            exact mt_ri S hr hk hW hS (by rw [c_X4_nowAt, if_neg c_1, if_neg c_2, if_neg c_4, if_neg c_6, if_neg c_7]) (Nat.le_of_ble_eq_true rfl) (Nat.le_of_ble_eq_true rfl) dX4_nowAt_79
          · refine lv_aload_n hx hb dX4_nowAt_67 rfl (lv_at hl 1 rfl) ?_
            refine mt_get S iw_X4 hC hW wc_200 rfl 2 (by decide) mw_fl_X4_16 rfl rfl dX4_nowAt_68 ?_
            refine lv_iload_n hx hb dX4_nowAt_71 rfl (lv_at hl 0 rfl) ?_
            refine wk_iald S hC hW ar_203 (sh_in hM (pathOf_P (isR_of c_2 c_4)).1 c_6) dX4_nowAt_72 ?_
            refine lv_iconst (v := 1) hx hb dX4_nowAt_73 (by decide) ?_
            refine lv_iadd hx hb dX4_nowAt_74 ?_
            refine lv_goto (tgt := 79) hx hb dX4_nowAt_75 (by decide) ?_
            exact mt_ri S hr hk hW hS (by rw [c_X4_nowAt, if_neg c_1, if_neg c_2, if_neg c_4, if_neg c_6, if_pos c_7]) (Nat.le_of_ble_eq_true rfl) (Nat.le_of_ble_eq_true rfl) dX4_nowAt_79
  · refine lv_aload_n hx hb dX4_nowAt_4 rfl (lv_at hl 0 rfl) ?_
    refine mt_get S iw_X4 hC hW wc_200 rfl 0 (by decide) mw_fl_X4_7 rfl rfl dX4_nowAt_5 ?_
    refine lv_iload_n hx hb dX4_nowAt_8 rfl (lv_at hl 2 rfl) ?_
    refine wk_iald S hC hW ar_201 hx3 dX4_nowAt_9 ?_
    refine lv_iconst (v := 1) hx hb dX4_nowAt_10 (by decide) ?_
    refine lv_icmp_ne (tgt := 25) hx hb dX4_nowAt_11 (by decide) (fun c_8 => ?_) (fun c_8 => ?_)
    · refine lv_iconst (v := 0) hx hb dX4_nowAt_25 (by decide) ?_
      exact mt_ri S hr hk hW hS (by rw [c_X4_nowAt, if_pos c_1, if_neg c_8]) (Nat.le_of_ble_eq_true rfl) (Nat.le_of_ble_eq_true rfl) dX4_nowAt_26
    · refine lv_aload_n hx hb dX4_nowAt_14 rfl (lv_at hl 0 rfl) ?_
      refine mt_get S iw_X4 hC hW wc_200 rfl 2 (by decide) mw_fl_X4_16 rfl rfl dX4_nowAt_15 ?_
      refine lv_iload_n hx hb dX4_nowAt_18 rfl (lv_at hl 2 rfl) ?_
      refine wk_iald S hC hW ar_203 hx3 dX4_nowAt_19 ?_
      refine lv_iconst (v := 1) hx hb dX4_nowAt_20 (by decide) ?_
      refine lv_iadd hx hb dX4_nowAt_21 ?_
      refine lv_goto (tgt := 26) hx hb dX4_nowAt_22 (by decide) ?_
      exact mt_ri S hr hk hW hS (by rw [c_X4_nowAt, if_pos c_1, if_pos c_8]) (Nat.le_of_ble_eq_true rfl) (Nat.le_of_ble_eq_true rfl) dX4_nowAt_26
theorem bk_w {N G : Nat → Nat → Int32} (hM : MI N G) (h : ¬ N 200 14 = 6) : vp_in (N 200 14) 6 := by
  rw [hM.2.2.2.2.2.1]; exact vp_in_nI (bk_l hM h) (by decide)
theorem bk_v {N G : Nat → Nat → Int32} {x : Int32} (hM : MI N G) (h : ¬ c_inI x 0 (N 200 14 - 1) = 0) : vp_in x 6 := by
  obtain ⟨h1, h2⟩ := bk_j hM h
  rw [h1]; exact vp_in_nI (by have := hM.2.2.1; omega) (by decide)
def c_X4_backUp_lG (lc mc bc : Nat) (N G : Nat → Nat → Int32) (b : Int32) : Nat → Nat → Nat → Int32
  | 0 => G
  | k + 1 => mt_gu (c_X4_backUp_lG lc mc bc N G b k) 213 (2046 * bqN N + k) (c_X4_nowAt lc mc bc N (c_X4_backUp_lG lc mc bc N G b k) b (nI k))
def c_X4_backUp (lc mc bc : Nat) (N G : Nat → Nat → Int32) (b : Int32) : Int32 := if (N 200 14) = 6 then (-1) else (((N 200 14) + 1) - 1)
def c_X4_backUp_G (lc mc bc : Nat) (N G : Nat → Nat → Int32) (b : Int32) : Nat → Nat → Int32 := if (N 200 14) = 6 then G else (mt_gu (c_X4_backUp_lG lc mc bc N G b 2046) 214 (N 200 14).toNatClampNeg b)
def c_X4_backUp_N (lc mc bc : Nat) (N G : Nat → Nat → Int32) (b : Int32) : Nat → Nat → Int32 := if (N 200 14) = 6 then (mt_gu N 200 15 1) else (mt_gu (mt_gu N 200 15 0) 200 14 ((N 200 14) + 1))
set_option maxRecDepth 100000 in
set_option maxHeartbeats 4000000 in
theorem k_X4_backUp (l : Launch) (hlt : l.stackTraces = false) (g : mt_G) (z : Nat) (ad : Nat → Nat) (lc mc bc : Nat) (N G : Nat → Nat → Int32) (o : Nat → Int64) (d : mt_D) (h6 : lc ≤ 6) (h8 : mc ≤ 8) (hb6 : bc ≤ 6) (b : Int32) (hM : MI N G) (hbb : Bo b) : mt_K l g z yX4_backUp cX4_backUp 3 (some .int) 5 116 0 0 [.ref (ad (200)), .int b] (mt_wc g ad lc mc bc N G o d) ad (.inr (some (.int (c_X4_backUp lc mc bc N G b)))) (mt_wc g ad lc mc bc (c_X4_backUp_N lc mc bc N G b) (c_X4_backUp_G lc mc bc N G b) o d) ad := by
  refine mt_ofW (by decide +kernel) (Nat.le_of_ble_eq_true rfl) ?_
  intro p e s m args below meth c S hr9 hk hnm hout hC hW hS ls hl
  have hr := hr9
  have hx := S.1
  have hb := S.2.1
  have hl : lv_has ls 3 [(0, .ref (ad (200))), (1, .int (b))] := hl
  refine lv_aload_n hx hb dX4_backUp_0 rfl (lv_at hl 0 rfl) ?_
  refine lv_aload_n hx hb dX4_backUp_1 rfl (lv_at hl 0 rfl) ?_
  refine mt_get S iw_X4 hC hW wc_200 rfl 14 (by decide) mw_fl_X4_151 rfl rfl dX4_backUp_2 ?_
  refine lv_bipush (v := 6) hx hb dX4_backUp_5 (by decide) ?_
  refine lv_icmp_ne (tgt := 14) hx hb dX4_backUp_7 (by decide) (fun c_1 => ?_) (fun c_1 => ?_)
  · refine lv_iconst (v := 0) hx hb dX4_backUp_14 (by decide) ?_
    refine mt_put S iw_X4 tyX4 tyX4_ok nmX4 hC hW hS wc_200 rfl 15 (by decide) mw_fl_X4_44 rfl rfl rfl rfl (Nat.le_of_ble_eq_true rfl) dX4_backUp_15 (fun H locs hW hS => ?_)
    have hW := hW.to (w1 := mt_wc g ad lc mc bc (mt_gu N 200 15 0) G o d) (wc_sett (by decide))
    refine lv_aload_n hx hb dX4_backUp_18 rfl (lv_at hl 0 rfl) ?_
    refine mt_get S iw_X4 hC hW wc_200 rfl 15 (by decide) mw_fl_X4_44 rfl rfl dX4_backUp_19 ?_
    refine mt_te (y := 0) rfl ?_
    refine lv_if_le (tgt := 27) hx hb dX4_backUp_22 (by decide) (fun c_2 => ?_) (fun c_2 => absurd (by decide) c_2)
    refine lv_iconst (v := 0) hx hb dX4_backUp_27 (by decide) ?_
    refine lv_istore_n (lv' := [(2, .int (0)), (0, .ref (ad (200))), (1, .int (b))]) hx hb dX4_backUp_28 rfl hl (by decide) rfl (fun ls hl => ?_)
    have hl : lv_has ls 3 [(2, .int (nI 0)), (0, .ref (ad (200))), (1, .int (b))] := lv_sub hl [0, 1, 2] rfl
    have hW : mt_W g z (mt_wc g ad lc mc bc (mt_gu N 200 15 0) (c_X4_backUp_lG lc mc bc N G b 0) o d) ad _ := hW
    refine lp_up 2046 (fun k => mt_wc g ad lc mc bc (mt_gu N 200 15 0) (c_X4_backUp_lG lc mc bc N G b k) o d) (fun k => [(2, .int (nI k)), (0, .ref (ad (200))), (1, .int (b))]) (fun k => MI N (c_X4_backUp_lG lc mc bc N G b k)) 0 (by omega) hM hW hS hl (fun H locs ls hP hW hS hl => ?_) (fun k H locs ls hk0 hkn hP hW hS hl ih => ?_)
    · have hW : mt_W g z (mt_wc g ad lc mc bc (mt_gu N 200 15 0) (c_X4_backUp_lG lc mc bc N G b 2046) o d) ad _ := hW
      have hl : lv_has ls 3 [(2, .int (nI 2046)), (0, .ref (ad (200))), (1, .int (b))] := hl
      have hP : MI N (c_X4_backUp_lG lc mc bc N G b 2046) := hP
      refine lv_iload_n hx hb dX4_backUp_29 rfl (lv_at hl 0 rfl) ?_
      refine lv_sipush (v := 2046) hx hb dX4_backUp_30 (by decide) ?_
      refine lv_icmp_ge (tgt := 63) hx hb dX4_backUp_33 (by decide) (fun c_3 => ?_) (fun c_3 => absurd (nI_le (a := 2046) (b := 2046) (Nat.le_refl _) (by omega)) c_3)
      refine lv_aload_n hx hb dX4_backUp_63 rfl (lv_at hl 1 rfl) ?_
      refine mt_get S iw_X4 hC hW wc_200 rfl 13 (by decide) mw_fl_X4_41 rfl rfl dX4_backUp_64 ?_
      refine lv_aload_n hx hb dX4_backUp_67 rfl (lv_at hl 1 rfl) ?_
      refine mt_get S iw_X4 hC hW wc_200 rfl 14 (by decide) mw_fl_X4_151 rfl rfl dX4_backUp_68 ?_
      refine mt_te (y := N 200 14) rfl ?_
      refine lv_iload_n hx hb dX4_backUp_71 rfl (lv_at hl 2 rfl) ?_
      refine wk_zast S hC hW hS ar_214 (bk_w hM c_1) (nar_b hbb) dX4_backUp_72 (fun H locs hW hS => ?_)
      refine lv_aload_n hx hb dX4_backUp_73 rfl (lv_at hl 1 rfl) ?_
      refine lv_dup hx hb dX4_backUp_74 rfl ?_
      refine mt_get S iw_X4 hC hW wc_200 rfl 14 (by decide) mw_fl_X4_151 rfl rfl dX4_backUp_75 ?_
      refine mt_te (y := N 200 14) rfl ?_
      refine lv_iconst (v := 1) hx hb dX4_backUp_78 (by decide) ?_
      refine lv_iadd hx hb dX4_backUp_79 ?_
      refine mt_put S iw_X4 tyX4 tyX4_ok nmX4 hC hW hS wc_200 rfl 14 (by decide) mw_fl_X4_151 rfl rfl rfl rfl (Nat.le_of_ble_eq_true rfl) dX4_backUp_80 (fun H locs hW hS => ?_)
      have hW := hW.to (w1 := mt_wc g ad lc mc bc (mt_gu (mt_gu N 200 15 0) 200 14 ((N 200 14) + 1)) (mt_gu (c_X4_backUp_lG lc mc bc N G b 2046) 214 (N 200 14).toNatClampNeg b) o d) (wc_sett (by decide))
      refine lv_aload_n hx hb dX4_backUp_83 rfl (lv_at hl 1 rfl) ?_
      refine mt_get S iw_X4 hC hW wc_200 rfl 14 (by decide) mw_fl_X4_151 rfl rfl dX4_backUp_84 ?_
      refine mt_te (y := (N 200 14) + 1) rfl ?_
      refine lv_iconst (v := 1) hx hb dX4_backUp_87 (by decide) ?_
      refine lv_isub hx hb dX4_backUp_88 ?_
      have hW := hW.to (w1 := mt_wc g ad lc mc bc (c_X4_backUp_N lc mc bc N G b) (c_X4_backUp_G lc mc bc N G b) o d) (by rw [c_X4_backUp_N, if_neg c_1, c_X4_backUp_G, if_neg c_1])
      exact mt_ri S hr hk hW hS (by rw [c_X4_backUp, if_neg c_1]) (Nat.le_of_ble_eq_true rfl) (Nat.le_of_ble_eq_true rfl) dX4_backUp_89
    · have hW : mt_W g z (mt_wc g ad lc mc bc (mt_gu N 200 15 0) (c_X4_backUp_lG lc mc bc N G b k) o d) ad _ := hW
      have hl : lv_has ls 3 [(2, .int (nI k)), (0, .ref (ad (200))), (1, .int (b))] := hl
      have hP : MI N (c_X4_backUp_lG lc mc bc N G b k) := hP
      refine lv_iload_n hx hb dX4_backUp_29 rfl (lv_at hl 0 rfl) ?_
      refine lv_sipush (v := 2046) hx hb dX4_backUp_30 (by decide) ?_
      refine lv_icmp_ge (tgt := 63) hx hb dX4_backUp_33 (by decide) (fun c_4 => absurd c_4 (nI_ge (a := k) (b := 2046) hkn (by omega))) (fun c_4 => ?_)
      refine lv_aload_n hx hb dX4_backUp_36 rfl (lv_at hl 1 rfl) ?_
      refine mt_get S iw_X4 hC hW wc_200 rfl 12 (by decide) mw_fl_X4_38 rfl rfl dX4_backUp_37 ?_
      refine lv_sipush (v := 2046) hx hb dX4_backUp_40 (by decide) ?_
      refine lv_aload_n hx hb dX4_backUp_43 rfl (lv_at hl 1 rfl) ?_
      refine mt_get S iw_X4 hC hW wc_200 rfl 14 (by decide) mw_fl_X4_151 rfl rfl dX4_backUp_44 ?_
      refine mt_te (y := N 200 14) rfl ?_
      refine lv_imul hx hb dX4_backUp_47 ?_
      refine lv_iload_n hx hb dX4_backUp_48 rfl (lv_at hl 0 rfl) ?_
      refine lv_iadd hx hb dX4_backUp_49 ?_
      refine mt_te (y := nI (2046 * bqN N + k)) (bk_i hM k) ?_
      refine lv_aload_n hx hb dX4_backUp_50 rfl (lv_at hl 1 rfl) ?_
      refine lv_iload_n hx hb dX4_backUp_51 rfl (lv_at hl 2 rfl) ?_
      refine lv_iload_n hx hb dX4_backUp_52 rfl (lv_at hl 0 rfl) ?_
      refine mt_cV1 (As := [.int (b), .int (nI k)]) (rest := [.int (nI (2046 * bqN N + k)), .ref (ad (213))]) S pv_X4_nowAt mw_ml_X4_154 (k_X4_nowAt l hlt g z ad lc mc bc (mt_gu N 200 15 0) (c_X4_backUp_lG lc mc bc N G b k) o d h6 h8 hb6 b (nI k) (by repeat (first | exact hM | exact hP | apply MI_t)) (vp_in_nI hkn (by decide))) hC hW hS wc_200 rfl rfl rfl hl.1 rfl (Nat.le_of_ble_eq_true rfl) dX4_backUp_53 ⟨(Nat.le_of_ble_eq_true rfl), (Nat.le_of_ble_eq_true rfl)⟩ ⟨(Nat.le_of_ble_eq_true rfl), (Nat.le_of_ble_eq_true rfl)⟩ rfl (fun H locs hW hS => ?_)
      refine mt_te (y := c_X4_nowAt lc mc bc N (c_X4_backUp_lG lc mc bc N G b k) b (nI k)) rfl ?_
      refine wk_iasn S hC hW hS ar_213 (2046 * bqN N + k) rfl (by have := bk_l hM c_1; omega) (by decide) dX4_backUp_56 (fun H locs hW hS => ?_)
      refine lv_iinc (v := nI (k + 1)) (lv' := [(2, .int (nI (k + 1))), (0, .ref (ad (200))), (1, .int (b))]) hx hb dX4_backUp_57 hl (k := 0) rfl (nI_1 _) (by decide) rfl (fun ls hl => ?_)
      refine lv_goto (tgt := 29) hx hb dX4_backUp_60 (by decide) ?_
      have hW : mt_W g z (mt_wc g ad lc mc bc (mt_gu N 200 15 0) (c_X4_backUp_lG lc mc bc N G b (k + 1)) o d) ad _ := hW.to (by rw [show c_X4_backUp_lG lc mc bc N G b (k + 1) = mt_gu (c_X4_backUp_lG lc mc bc N G b k) 213 (2046 * bqN N + k) (c_X4_nowAt lc mc bc N (c_X4_backUp_lG lc mc bc N G b k) b (nI k)) from (by rw [c_X4_backUp_lG])])
      have hl : lv_has ls 3 [(2, .int (nI (k + 1))), (0, .ref (ad (200))), (1, .int (b))] := lv_sub hl [0, 1, 2] rfl
      exact ih _ _ _ (by rw [c_X4_backUp_lG]; exact MI_k hP) hW hS hl
  · refine lv_iconst (v := 1) hx hb dX4_backUp_10 (by decide) ?_
    refine lv_goto (tgt := 15) hx hb dX4_backUp_11 (by decide) ?_
    refine mt_put S iw_X4 tyX4 tyX4_ok nmX4 hC hW hS wc_200 rfl 15 (by decide) mw_fl_X4_44 rfl rfl rfl rfl (Nat.le_of_ble_eq_true rfl) dX4_backUp_15 (fun H locs hW hS => ?_)
    have hW := hW.to (w1 := mt_wc g ad lc mc bc (mt_gu N 200 15 1) G o d) (wc_sett (by decide))
    refine lv_aload_n hx hb dX4_backUp_18 rfl (lv_at hl 0 rfl) ?_
    refine mt_get S iw_X4 hC hW wc_200 rfl 15 (by decide) mw_fl_X4_44 rfl rfl dX4_backUp_19 ?_
    refine mt_te (y := 1) rfl ?_
    refine lv_if_le (tgt := 27) hx hb dX4_backUp_22 (by decide) (fun c_5 => absurd c_5 (by decide)) (fun c_5 => ?_)
    refine lv_iconst (v := -1) hx hb dX4_backUp_25 (by decide) ?_
    have hW := hW.to (w1 := mt_wc g ad lc mc bc (c_X4_backUp_N lc mc bc N G b) (c_X4_backUp_G lc mc bc N G b) o d) (by rw [c_X4_backUp_N, if_pos c_1, c_X4_backUp_G, if_pos c_1])
    exact mt_ri S hr hk hW hS (by rw [c_X4_backUp, if_pos c_1]) (Nat.le_of_ble_eq_true rfl) (Nat.le_of_ble_eq_true rfl) dX4_backUp_26
def c_X4_bytes_ls (lc mc bc : Nat) (N G : Nat → Nat → Int32) (x : Int32) : Nat → Int32
  | 0 => 0
  | k + 1 => if (G 213 (2046 * x.toNatClampNeg + k)) ≤ 0 then ((c_X4_bytes_ls lc mc bc N G x k) + 0) else ((c_X4_bytes_ls lc mc bc N G x k) + ((G 213 (2046 * x.toNatClampNeg + k)) - 1))
def c_X4_bytes (lc mc bc : Nat) (N G : Nat → Nat → Int32) (x : Int32) : Int32 := if c_inI x 0 (N 200 14 - 1) = 0 then (-1) else (c_X4_bytes_ls lc mc bc N G x 2046)
def c_X4_bytes_N (lc mc bc : Nat) (N G : Nat → Nat → Int32) (x : Int32) : Nat → Nat → Int32 := if c_inI x 0 (N 200 14 - 1) = 0 then (mt_gu N 200 15 1) else (mt_gu N 200 15 0)
set_option maxRecDepth 100000 in
set_option maxHeartbeats 4000000 in
theorem k_X4_bytes (l : Launch) (hlt : l.stackTraces = false) (g : mt_G) (z : Nat) (ad : Nat → Nat) (lc mc bc : Nat) (N G : Nat → Nat → Int32) (o : Nat → Int64) (d : mt_D) (h6 : lc ≤ 6) (h8 : mc ≤ 8) (hb6 : bc ≤ 6) (x : Int32) (hM : MI N G) : mt_K l g z yX4_bytes cX4_bytes 5 (some .int) 2 46 0 0 [.ref (ad (200)), .int x] (mt_wc g ad lc mc bc N G o d) ad (.inr (some (.int (c_X4_bytes lc mc bc N G x)))) (mt_wc g ad lc mc bc (c_X4_bytes_N lc mc bc N G x) G o d) ad := by
  refine mt_ofW (by decide +kernel) (Nat.le_of_ble_eq_true rfl) ?_
  intro p e s m args below meth c S hr9 hk hnm hout hC hW hS ls hl
  have hr := hr9
  have hx := S.1
  have hb := S.2.1
  have hl : lv_has ls 5 [(0, .ref (ad (200))), (1, .int (x))] := hl
  refine lv_aload_n hx hb dX4_bytes_0 rfl (lv_at hl 0 rfl) ?_
  refine lv_iload_n hx hb dX4_bytes_1 rfl (lv_at hl 1 rfl) ?_
  refine mt_cV1 (As := [.int (x)]) (rest := []) S pv_X4_isBackup mw_ml_X4_158 (k_X4_isBackup l hlt g z ad lc mc bc N G o d h6 h8 hb6 x) hC hW hS wc_200 rfl rfl rfl hl.1 rfl (Nat.le_of_ble_eq_true rfl) dX4_bytes_2 ⟨(Nat.le_of_ble_eq_true rfl), (Nat.le_of_ble_eq_true rfl)⟩ ⟨(Nat.le_of_ble_eq_true rfl), (Nat.le_of_ble_eq_true rfl)⟩ rfl (fun H locs hW hS => ?_)
  by_cases cf_1 : c_inI x 0 (N 200 14 - 1) = 0
  · refine mt_te (y := 0) (by rw [show c_X4_isBackup lc mc bc N G x = (if c_inI x 0 (N 200 14 - 1) = 0 then 0 else 1) from rfl, if_pos cf_1]) ?_
    have hW := hW.to (w1 := mt_wc g ad lc mc bc (mt_gu N 200 15 1) G o d) (by rw [if_pos cf_1])
    refine lv_if_eq (tgt := 12) hx hb dX4_bytes_5 (by decide) (fun c_2 => ?_) (fun c_2 => absurd (by decide) c_2)
    refine lv_iconst (v := -1) hx hb dX4_bytes_12 (by decide) ?_
    refine lv_istore_n (lv' := [(2, .int (-1)), (0, .ref (ad (200))), (1, .int (x))]) hx hb dX4_bytes_13 rfl hl (by decide) rfl (fun ls hl => ?_)
    refine lv_iconst (v := 0) hx hb dX4_bytes_14 (by decide) ?_
    refine lv_istore_n (lv' := [(3, .int (0)), (2, .int (-1)), (0, .ref (ad (200))), (1, .int (x))]) hx hb dX4_bytes_15 rfl hl (by decide) rfl (fun ls hl => ?_)
    refine lv_iload_n hx hb dX4_bytes_16 rfl (lv_at hl 0 rfl) ?_
    refine lv_sipush (v := 2046) hx hb dX4_bytes_17 (by decide) ?_
    refine lv_icmp_ge (tgt := 66) hx hb dX4_bytes_20 (by decide) (fun c_3 => absurd c_3 (by decide)) (fun c_3 => ?_)
    refine lv_aload_n hx hb dX4_bytes_23 rfl (lv_at hl 2 rfl) ?_
    refine mt_get S iw_X4 hC hW wc_200 rfl 15 (by decide) mw_fl_X4_44 rfl rfl dX4_bytes_24 ?_
    refine mt_te (y := 1) rfl ?_
    refine lv_if_ne (tgt := 66) hx hb dX4_bytes_27 (by decide) (fun c_4 => ?_) (fun c_4 => absurd c_4 (by decide))
    refine lv_iload_n hx hb dX4_bytes_66 rfl (lv_at hl 1 rfl) ?_
    have hW := hW.to (w1 := mt_wc g ad lc mc bc (c_X4_bytes_N lc mc bc N G x) G o d) (by rw [c_X4_bytes_N, if_pos cf_1])
    exact mt_ri S hr hk hW hS (by rw [c_X4_bytes, if_pos cf_1]) (Nat.le_of_ble_eq_true rfl) (Nat.le_of_ble_eq_true rfl) dX4_bytes_67
  · refine mt_te (y := 1) (by rw [show c_X4_isBackup lc mc bc N G x = (if c_inI x 0 (N 200 14 - 1) = 0 then 0 else 1) from rfl, if_neg cf_1]) ?_
    have hW := hW.to (w1 := mt_wc g ad lc mc bc (mt_gu N 200 15 0) G o d) (by rw [if_neg cf_1])
    refine lv_if_eq (tgt := 12) hx hb dX4_bytes_5 (by decide) (fun c_5 => absurd c_5 (by decide)) (fun c_5 => ?_)
    refine lv_iconst (v := 0) hx hb dX4_bytes_8 (by decide) ?_
    refine lv_goto (tgt := 13) hx hb dX4_bytes_9 (by decide) ?_
    refine lv_istore_n (lv' := [(2, .int (0)), (0, .ref (ad (200))), (1, .int (x))]) hx hb dX4_bytes_13 rfl hl (by decide) rfl (fun ls hl => ?_)
    refine lv_iconst (v := 0) hx hb dX4_bytes_14 (by decide) ?_
    refine lv_istore_n (lv' := [(3, .int (0)), (2, .int (0)), (0, .ref (ad (200))), (1, .int (x))]) hx hb dX4_bytes_15 rfl hl (by decide) rfl (fun ls hl => ?_)
    have hl : lv_has ls 5 [(3, .int (nI 0)), (2, .int (c_X4_bytes_ls lc mc bc N G x 0)), (0, .ref (ad (200))), (1, .int (x))] := lv_sub hl [0, 1, 2, 3] rfl
    refine lp_up 2046 (fun k => mt_wc g ad lc mc bc (mt_gu N 200 15 0) G o d) (fun k => [(3, .int (nI k)), (2, .int (c_X4_bytes_ls lc mc bc N G x k)), (0, .ref (ad (200))), (1, .int (x))]) (fun _ => True) 0 (by omega) trivial hW hS hl (fun H locs ls hP hW hS hl => ?_) (fun k H locs ls hk0 hkn hP hW hS hl ih => ?_)
    · have hW : mt_W g z (mt_wc g ad lc mc bc (mt_gu N 200 15 0) G o d) ad _ := hW
      have hl : lv_has ls 5 [(3, .int (nI 2046)), (2, .int (c_X4_bytes_ls lc mc bc N G x 2046)), (0, .ref (ad (200))), (1, .int (x))] := hl
      refine lv_iload_n hx hb dX4_bytes_16 rfl (lv_at hl 0 rfl) ?_
      refine lv_sipush (v := 2046) hx hb dX4_bytes_17 (by decide) ?_
      refine lv_icmp_ge (tgt := 66) hx hb dX4_bytes_20 (by decide) (fun c_6 => ?_) (fun c_6 => absurd (nI_le (a := 2046) (b := 2046) (Nat.le_refl _) (by omega)) c_6)
      refine lv_iload_n hx hb dX4_bytes_66 rfl (lv_at hl 1 rfl) ?_
      have hW := hW.to (w1 := mt_wc g ad lc mc bc (c_X4_bytes_N lc mc bc N G x) G o d) (by rw [c_X4_bytes_N, if_neg cf_1])
      exact mt_ri S hr hk hW hS (by rw [c_X4_bytes, if_neg cf_1]) (Nat.le_of_ble_eq_true rfl) (Nat.le_of_ble_eq_true rfl) dX4_bytes_67
    · have hW : mt_W g z (mt_wc g ad lc mc bc (mt_gu N 200 15 0) G o d) ad _ := hW
      have hl : lv_has ls 5 [(3, .int (nI k)), (2, .int (c_X4_bytes_ls lc mc bc N G x k)), (0, .ref (ad (200))), (1, .int (x))] := hl
      refine lv_iload_n hx hb dX4_bytes_16 rfl (lv_at hl 0 rfl) ?_
      refine lv_sipush (v := 2046) hx hb dX4_bytes_17 (by decide) ?_
      refine lv_icmp_ge (tgt := 66) hx hb dX4_bytes_20 (by decide) (fun c_7 => absurd c_7 (nI_ge (a := k) (b := 2046) hkn (by omega))) (fun c_7 => ?_)
      refine lv_aload_n hx hb dX4_bytes_23 rfl (lv_at hl 2 rfl) ?_
      refine mt_get S iw_X4 hC hW wc_200 rfl 15 (by decide) mw_fl_X4_44 rfl rfl dX4_bytes_24 ?_
      refine mt_te (y := 0) rfl ?_
      refine lv_if_ne (tgt := 66) hx hb dX4_bytes_27 (by decide) (fun c_8 => absurd (by decide) c_8) (fun c_8 => ?_)
      refine lv_aload_n hx hb dX4_bytes_30 rfl (lv_at hl 2 rfl) ?_
      refine mt_get S iw_X4 hC hW wc_200 rfl 12 (by decide) mw_fl_X4_38 rfl rfl dX4_bytes_31 ?_
      refine lv_sipush (v := 2046) hx hb dX4_bytes_34 (by decide) ?_
      refine lv_iload_n hx hb dX4_bytes_37 rfl (lv_at hl 3 rfl) ?_
      refine lv_imul hx hb dX4_bytes_38 ?_
      refine lv_iload_n hx hb dX4_bytes_39 rfl (lv_at hl 0 rfl) ?_
      refine lv_iadd hx hb dX4_bytes_40 ?_
      refine mt_te (y := nI (2046 * x.toNatClampNeg + k)) (bk_x hM cf_1 k) ?_
      refine wk_ialn S hC hW ar_213 (2046 * x.toNatClampNeg + k) rfl (by have := (bk_j hM cf_1).2; have := hM.2.2.1; omega) (by decide) dX4_bytes_41 ?_
      refine lv_istore (lv' := [(4, .int (G 213 (2046 * x.toNatClampNeg + k))), (3, .int (nI k)), (2, .int (c_X4_bytes_ls lc mc bc N G x k)), (0, .ref (ad (200))), (1, .int (x))]) hx hb dX4_bytes_42 hl (by decide) rfl (fun ls hl => ?_)
      refine lv_iload_n hx hb dX4_bytes_44 rfl (lv_at hl 2 rfl) ?_
      refine lv_iload hx hb dX4_bytes_45 (lv_at hl 0 rfl) ?_
      refine lv_if_le (tgt := 57) hx hb dX4_bytes_47 (by decide) (fun c_9 => ?_) (fun c_9 => ?_)
      · refine lv_iconst (v := 0) hx hb dX4_bytes_57 (by decide) ?_
        refine lv_iadd hx hb dX4_bytes_58 ?_
        refine lv_istore_n (lv' := [(2, .int ((c_X4_bytes_ls lc mc bc N G x k) + 0)), (4, .int (G 213 (2046 * x.toNatClampNeg + k))), (3, .int (nI k)), (0, .ref (ad (200))), (1, .int (x))]) hx hb dX4_bytes_59 rfl hl (by decide) rfl (fun ls hl => ?_)
        refine lv_iinc (v := nI (k + 1)) (lv' := [(3, .int (nI (k + 1))), (2, .int ((c_X4_bytes_ls lc mc bc N G x k) + 0)), (4, .int (G 213 (2046 * x.toNatClampNeg + k))), (0, .ref (ad (200))), (1, .int (x))]) hx hb dX4_bytes_60 hl (k := 2) rfl (nI_1 _) (by decide) rfl (fun ls hl => ?_)
        refine lv_goto (tgt := 16) hx hb dX4_bytes_63 (by decide) ?_
        have hl : lv_has ls 5 [(3, .int (nI (k + 1))), (2, .int (c_X4_bytes_ls lc mc bc N G x (k + 1))), (0, .ref (ad (200))), (1, .int (x))] := by rw [show c_X4_bytes_ls lc mc bc N G x (k + 1) = (c_X4_bytes_ls lc mc bc N G x k) + 0 from (by rw [c_X4_bytes_ls, if_pos c_9])]; exact lv_sub hl [0, 1, 3, 4] rfl
        exact ih _ _ _ trivial hW hS hl
      · refine lv_iload hx hb dX4_bytes_50 (lv_at hl 0 rfl) ?_
        refine lv_iconst (v := 1) hx hb dX4_bytes_52 (by decide) ?_
        refine lv_isub hx hb dX4_bytes_53 ?_
        refine lv_goto (tgt := 58) hx hb dX4_bytes_54 (by decide) ?_
        refine lv_iadd hx hb dX4_bytes_58 ?_
        refine lv_istore_n (lv' := [(2, .int ((c_X4_bytes_ls lc mc bc N G x k) + ((G 213 (2046 * x.toNatClampNeg + k)) - 1))), (4, .int (G 213 (2046 * x.toNatClampNeg + k))), (3, .int (nI k)), (0, .ref (ad (200))), (1, .int (x))]) hx hb dX4_bytes_59 rfl hl (by decide) rfl (fun ls hl => ?_)
        refine lv_iinc (v := nI (k + 1)) (lv' := [(3, .int (nI (k + 1))), (2, .int ((c_X4_bytes_ls lc mc bc N G x k) + ((G 213 (2046 * x.toNatClampNeg + k)) - 1))), (4, .int (G 213 (2046 * x.toNatClampNeg + k))), (0, .ref (ad (200))), (1, .int (x))]) hx hb dX4_bytes_60 hl (k := 2) rfl (nI_1 _) (by decide) rfl (fun ls hl => ?_)
        refine lv_goto (tgt := 16) hx hb dX4_bytes_63 (by decide) ?_
        have hl : lv_has ls 5 [(3, .int (nI (k + 1))), (2, .int (c_X4_bytes_ls lc mc bc N G x (k + 1))), (0, .ref (ad (200))), (1, .int (x))] := by rw [show c_X4_bytes_ls lc mc bc N G x (k + 1) = (c_X4_bytes_ls lc mc bc N G x k) + ((G 213 (2046 * x.toNatClampNeg + k)) - 1) from (by rw [c_X4_bytes_ls, if_neg c_9])]; exact lv_sub hl [0, 1, 3, 4] rfl
        exact ih _ _ _ trivial hW hS hl
def c_X4_differences_ls (lc mc bc : Nat) (N G : Nat → Nat → Int32) (x : Int32) : Nat → Int32
  | 0 => 0
  | k + 1 => if (G 213 (2046 * x.toNatClampNeg + k)) = (c_X4_nowAt lc mc bc N G (G 214 x.toNatClampNeg) (nI k)) then ((c_X4_differences_ls lc mc bc N G x k) + 0) else ((c_X4_differences_ls lc mc bc N G x k) + 1)
def c_X4_differences (lc mc bc : Nat) (N G : Nat → Nat → Int32) (x : Int32) : Int32 := if c_inI x 0 (N 200 14 - 1) = 0 then (-1) else (c_X4_differences_ls lc mc bc N G x 2046)
def c_X4_differences_N (lc mc bc : Nat) (N G : Nat → Nat → Int32) (x : Int32) : Nat → Nat → Int32 := if c_inI x 0 (N 200 14 - 1) = 0 then (mt_gu N 200 15 1) else (mt_gu N 200 15 0)
set_option maxRecDepth 100000 in
set_option maxHeartbeats 4000000 in
theorem k_X4_differences (l : Launch) (hlt : l.stackTraces = false) (g : mt_G) (z : Nat) (ad : Nat → Nat) (lc mc bc : Nat) (N G : Nat → Nat → Int32) (o : Nat → Int64) (d : mt_D) (h6 : lc ≤ 6) (h8 : mc ≤ 8) (hb6 : bc ≤ 6) (x : Int32) (hM : MI N G) : mt_K l g z yX4_differences cX4_differences 4 (some .int) 5 116 0 0 [.ref (ad (200)), .int x] (mt_wc g ad lc mc bc N G o d) ad (.inr (some (.int (c_X4_differences lc mc bc N G x)))) (mt_wc g ad lc mc bc (c_X4_differences_N lc mc bc N G x) G o d) ad := by
  refine mt_ofW (by decide +kernel) (Nat.le_of_ble_eq_true rfl) ?_
  intro p e s m args below meth c S hr9 hk hnm hout hC hW hS ls hl
  have hr := hr9
  have hx := S.1
  have hb := S.2.1
  have hl : lv_has ls 4 [(0, .ref (ad (200))), (1, .int (x))] := hl
  refine lv_aload_n hx hb dX4_differences_0 rfl (lv_at hl 0 rfl) ?_
  refine lv_iload_n hx hb dX4_differences_1 rfl (lv_at hl 1 rfl) ?_
  refine mt_cV1 (As := [.int (x)]) (rest := []) S pv_X4_isBackup mw_ml_X4_158 (k_X4_isBackup l hlt g z ad lc mc bc N G o d h6 h8 hb6 x) hC hW hS wc_200 rfl rfl rfl hl.1 rfl (Nat.le_of_ble_eq_true rfl) dX4_differences_2 ⟨(Nat.le_of_ble_eq_true rfl), (Nat.le_of_ble_eq_true rfl)⟩ ⟨(Nat.le_of_ble_eq_true rfl), (Nat.le_of_ble_eq_true rfl)⟩ rfl (fun H locs hW hS => ?_)
  by_cases cf_1 : c_inI x 0 (N 200 14 - 1) = 0
  · refine mt_te (y := 0) (by rw [show c_X4_isBackup lc mc bc N G x = (if c_inI x 0 (N 200 14 - 1) = 0 then 0 else 1) from rfl, if_pos cf_1]) ?_
    have hW := hW.to (w1 := mt_wc g ad lc mc bc (mt_gu N 200 15 1) G o d) (by rw [if_pos cf_1])
    refine lv_if_eq (tgt := 12) hx hb dX4_differences_5 (by decide) (fun c_2 => ?_) (fun c_2 => absurd (by decide) c_2)
    refine lv_iconst (v := -1) hx hb dX4_differences_12 (by decide) ?_
    refine lv_istore_n (lv' := [(2, .int (-1)), (0, .ref (ad (200))), (1, .int (x))]) hx hb dX4_differences_13 rfl hl (by decide) rfl (fun ls hl => ?_)
    refine lv_iconst (v := 0) hx hb dX4_differences_14 (by decide) ?_
    refine lv_istore_n (lv' := [(3, .int (0)), (2, .int (-1)), (0, .ref (ad (200))), (1, .int (x))]) hx hb dX4_differences_15 rfl hl (by decide) rfl (fun ls hl => ?_)
    refine lv_iload_n hx hb dX4_differences_16 rfl (lv_at hl 0 rfl) ?_
    refine lv_sipush (v := 2046) hx hb dX4_differences_17 (by decide) ?_
    refine lv_icmp_ge (tgt := 70) hx hb dX4_differences_20 (by decide) (fun c_3 => absurd c_3 (by decide)) (fun c_3 => ?_)
    refine lv_aload_n hx hb dX4_differences_23 rfl (lv_at hl 2 rfl) ?_
    refine mt_get S iw_X4 hC hW wc_200 rfl 15 (by decide) mw_fl_X4_44 rfl rfl dX4_differences_24 ?_
    refine mt_te (y := 1) rfl ?_
    refine lv_if_ne (tgt := 70) hx hb dX4_differences_27 (by decide) (fun c_4 => ?_) (fun c_4 => absurd c_4 (by decide))
    refine lv_iload_n hx hb dX4_differences_70 rfl (lv_at hl 1 rfl) ?_
    have hW := hW.to (w1 := mt_wc g ad lc mc bc (c_X4_differences_N lc mc bc N G x) G o d) (by rw [c_X4_differences_N, if_pos cf_1])
    exact mt_ri S hr hk hW hS (by rw [c_X4_differences, if_pos cf_1]) (Nat.le_of_ble_eq_true rfl) (Nat.le_of_ble_eq_true rfl) dX4_differences_71
  · refine mt_te (y := 1) (by rw [show c_X4_isBackup lc mc bc N G x = (if c_inI x 0 (N 200 14 - 1) = 0 then 0 else 1) from rfl, if_neg cf_1]) ?_
    have hW := hW.to (w1 := mt_wc g ad lc mc bc (mt_gu N 200 15 0) G o d) (by rw [if_neg cf_1])
    refine lv_if_eq (tgt := 12) hx hb dX4_differences_5 (by decide) (fun c_5 => absurd c_5 (by decide)) (fun c_5 => ?_)
    refine lv_iconst (v := 0) hx hb dX4_differences_8 (by decide) ?_
    refine lv_goto (tgt := 13) hx hb dX4_differences_9 (by decide) ?_
    refine lv_istore_n (lv' := [(2, .int (0)), (0, .ref (ad (200))), (1, .int (x))]) hx hb dX4_differences_13 rfl hl (by decide) rfl (fun ls hl => ?_)
    refine lv_iconst (v := 0) hx hb dX4_differences_14 (by decide) ?_
    refine lv_istore_n (lv' := [(3, .int (0)), (2, .int (0)), (0, .ref (ad (200))), (1, .int (x))]) hx hb dX4_differences_15 rfl hl (by decide) rfl (fun ls hl => ?_)
    have hl : lv_has ls 4 [(3, .int (nI 0)), (2, .int (c_X4_differences_ls lc mc bc N G x 0)), (0, .ref (ad (200))), (1, .int (x))] := lv_sub hl [0, 1, 2, 3] rfl
    refine lp_up 2046 (fun k => mt_wc g ad lc mc bc (mt_gu N 200 15 0) G o d) (fun k => [(3, .int (nI k)), (2, .int (c_X4_differences_ls lc mc bc N G x k)), (0, .ref (ad (200))), (1, .int (x))]) (fun _ => True) 0 (by omega) trivial hW hS hl (fun H locs ls hP hW hS hl => ?_) (fun k H locs ls hk0 hkn hP hW hS hl ih => ?_)
    · have hW : mt_W g z (mt_wc g ad lc mc bc (mt_gu N 200 15 0) G o d) ad _ := hW
      have hl : lv_has ls 4 [(3, .int (nI 2046)), (2, .int (c_X4_differences_ls lc mc bc N G x 2046)), (0, .ref (ad (200))), (1, .int (x))] := hl
      refine lv_iload_n hx hb dX4_differences_16 rfl (lv_at hl 0 rfl) ?_
      refine lv_sipush (v := 2046) hx hb dX4_differences_17 (by decide) ?_
      refine lv_icmp_ge (tgt := 70) hx hb dX4_differences_20 (by decide) (fun c_6 => ?_) (fun c_6 => absurd (nI_le (a := 2046) (b := 2046) (Nat.le_refl _) (by omega)) c_6)
      refine lv_iload_n hx hb dX4_differences_70 rfl (lv_at hl 1 rfl) ?_
      have hW := hW.to (w1 := mt_wc g ad lc mc bc (c_X4_differences_N lc mc bc N G x) G o d) (by rw [c_X4_differences_N, if_neg cf_1])
      exact mt_ri S hr hk hW hS (by rw [c_X4_differences, if_neg cf_1]) (Nat.le_of_ble_eq_true rfl) (Nat.le_of_ble_eq_true rfl) dX4_differences_71
    · have hW : mt_W g z (mt_wc g ad lc mc bc (mt_gu N 200 15 0) G o d) ad _ := hW
      have hl : lv_has ls 4 [(3, .int (nI k)), (2, .int (c_X4_differences_ls lc mc bc N G x k)), (0, .ref (ad (200))), (1, .int (x))] := hl
      refine lv_iload_n hx hb dX4_differences_16 rfl (lv_at hl 0 rfl) ?_
      refine lv_sipush (v := 2046) hx hb dX4_differences_17 (by decide) ?_
      refine lv_icmp_ge (tgt := 70) hx hb dX4_differences_20 (by decide) (fun c_7 => absurd c_7 (nI_ge (a := k) (b := 2046) hkn (by omega))) (fun c_7 => ?_)
      refine lv_aload_n hx hb dX4_differences_23 rfl (lv_at hl 2 rfl) ?_
      refine mt_get S iw_X4 hC hW wc_200 rfl 15 (by decide) mw_fl_X4_44 rfl rfl dX4_differences_24 ?_
      refine mt_te (y := 0) rfl ?_
      refine lv_if_ne (tgt := 70) hx hb dX4_differences_27 (by decide) (fun c_8 => absurd (by decide) c_8) (fun c_8 => ?_)
      refine lv_iload_n hx hb dX4_differences_30 rfl (lv_at hl 1 rfl) ?_
      refine lv_aload_n hx hb dX4_differences_31 rfl (lv_at hl 2 rfl) ?_
      refine mt_get S iw_X4 hC hW wc_200 rfl 12 (by decide) mw_fl_X4_38 rfl rfl dX4_differences_32 ?_
      refine lv_sipush (v := 2046) hx hb dX4_differences_35 (by decide) ?_
      refine lv_iload_n hx hb dX4_differences_38 rfl (lv_at hl 3 rfl) ?_
      refine lv_imul hx hb dX4_differences_39 ?_
      refine lv_iload_n hx hb dX4_differences_40 rfl (lv_at hl 0 rfl) ?_
      refine lv_iadd hx hb dX4_differences_41 ?_
      refine mt_te (y := nI (2046 * x.toNatClampNeg + k)) (bk_x hM cf_1 k) ?_
      refine wk_ialn S hC hW ar_213 (2046 * x.toNatClampNeg + k) rfl (by have := (bk_j hM cf_1).2; have := hM.2.2.1; omega) (by decide) dX4_differences_42 ?_
      refine lv_aload_n hx hb dX4_differences_43 rfl (lv_at hl 2 rfl) ?_
      refine lv_aload_n hx hb dX4_differences_44 rfl (lv_at hl 2 rfl) ?_
      refine mt_get S iw_X4 hC hW wc_200 rfl 13 (by decide) mw_fl_X4_41 rfl rfl dX4_differences_45 ?_
      refine lv_iload_n hx hb dX4_differences_48 rfl (lv_at hl 3 rfl) ?_
      refine wk_zald S hC hW ar_214 (bk_v hM cf_1) dX4_differences_49 ?_
      refine lv_iload_n hx hb dX4_differences_50 rfl (lv_at hl 0 rfl) ?_
      refine mt_cV1 (As := [.int (G 214 x.toNatClampNeg), .int (nI k)]) (rest := [.int (G 213 (2046 * x.toNatClampNeg + k)), .int (c_X4_differences_ls lc mc bc N G x k)]) S pv_X4_nowAt mw_ml_X4_154 (k_X4_nowAt l hlt g z ad lc mc bc (mt_gu N 200 15 0) G o d h6 h8 hb6 (G 214 x.toNatClampNeg) (nI k) (by repeat (first | exact hM | exact hP | apply MI_t)) (vp_in_nI hkn (by decide))) hC hW hS wc_200 rfl rfl rfl hl.1 rfl (Nat.le_of_ble_eq_true rfl) dX4_differences_51 ⟨(Nat.le_of_ble_eq_true rfl), (Nat.le_of_ble_eq_true rfl)⟩ ⟨(Nat.le_of_ble_eq_true rfl), (Nat.le_of_ble_eq_true rfl)⟩ rfl (fun H locs hW hS => ?_)
      refine mt_te (y := c_X4_nowAt lc mc bc N G (G 214 x.toNatClampNeg) (nI k)) rfl ?_
      refine lv_icmp_ne (tgt := 61) hx hb dX4_differences_54 (by decide) (fun c_9 => ?_) (fun c_9 => ?_)
      · refine lv_iconst (v := 1) hx hb dX4_differences_61 (by decide) ?_
        refine lv_iadd hx hb dX4_differences_62 ?_
        refine lv_istore_n (lv' := [(2, .int ((c_X4_differences_ls lc mc bc N G x k) + 1)), (3, .int (nI k)), (0, .ref (ad (200))), (1, .int (x))]) hx hb dX4_differences_63 rfl hl (by decide) rfl (fun ls hl => ?_)
        refine lv_iinc (v := nI (k + 1)) (lv' := [(3, .int (nI (k + 1))), (2, .int ((c_X4_differences_ls lc mc bc N G x k) + 1)), (0, .ref (ad (200))), (1, .int (x))]) hx hb dX4_differences_64 hl (k := 1) rfl (nI_1 _) (by decide) rfl (fun ls hl => ?_)
        refine lv_goto (tgt := 16) hx hb dX4_differences_67 (by decide) ?_
        have hl : lv_has ls 4 [(3, .int (nI (k + 1))), (2, .int (c_X4_differences_ls lc mc bc N G x (k + 1))), (0, .ref (ad (200))), (1, .int (x))] := by rw [show c_X4_differences_ls lc mc bc N G x (k + 1) = (c_X4_differences_ls lc mc bc N G x k) + 1 from (by rw [c_X4_differences_ls, if_neg c_9])]; exact lv_sub hl [0, 1, 2, 3] rfl
        exact ih _ _ _ trivial hW hS hl
      · refine lv_iconst (v := 0) hx hb dX4_differences_57 (by decide) ?_
        refine lv_goto (tgt := 62) hx hb dX4_differences_58 (by decide) ?_
        refine lv_iadd hx hb dX4_differences_62 ?_
        refine lv_istore_n (lv' := [(2, .int ((c_X4_differences_ls lc mc bc N G x k) + 0)), (3, .int (nI k)), (0, .ref (ad (200))), (1, .int (x))]) hx hb dX4_differences_63 rfl hl (by decide) rfl (fun ls hl => ?_)
        refine lv_iinc (v := nI (k + 1)) (lv' := [(3, .int (nI (k + 1))), (2, .int ((c_X4_differences_ls lc mc bc N G x k) + 0)), (0, .ref (ad (200))), (1, .int (x))]) hx hb dX4_differences_64 hl (k := 1) rfl (nI_1 _) (by decide) rfl (fun ls hl => ?_)
        refine lv_goto (tgt := 16) hx hb dX4_differences_67 (by decide) ?_
        have hl : lv_has ls 4 [(3, .int (nI (k + 1))), (2, .int (c_X4_differences_ls lc mc bc N G x (k + 1))), (0, .ref (ad (200))), (1, .int (x))] := by rw [show c_X4_differences_ls lc mc bc N G x (k + 1) = (c_X4_differences_ls lc mc bc N G x k) + 0 from (by rw [c_X4_differences_ls, if_pos c_9])]; exact lv_sub hl [0, 1, 2, 3] rfl
        exact ih _ _ _ trivial hW hS hl

def c_X0_sum_ln (lc mc bc : Nat) (N G : Nat → Nat → Int32) (i : Nat) : Nat → Int32
  | 0 => 0
  | k + 1 => if (G (170 + i) k) = (-1) then ((c_X0_sum_ln lc mc bc N G i k) + 0) else ((c_X0_sum_ln lc mc bc N G i k) + (G (170 + i) k))
def c_X0_sum (lc mc bc : Nat) (N G : Nat → Nat → Int32) (i : Nat) : Int32 := c_X0_sum_ln lc mc bc N G i (c_bn (N (160 + i) 0))
set_option maxRecDepth 100000 in
set_option maxHeartbeats 4000000 in
theorem k_X0_sum (l : Launch) (hlt : l.stackTraces = false) (g : mt_G) (z : Nat) (ad : Nat → Nat) (lc mc bc : Nat) (N G : Nat → Nat → Int32) (o : Nat → Int64) (d : mt_D) (h6 : lc ≤ 6) (h8 : mc ≤ 8) (hb6 : bc ≤ 6) (i : Nat) (hi : i < bc) : mt_K l g z yX0_sum cX0_sum 3 (some .int) 0 0 0 0 [.ref (ad (160 + i))] (mt_wc g ad lc mc bc N G o d) ad (.inr (some (.int (c_X0_sum lc mc bc N G i)))) (mt_wc g ad lc mc bc N G o d) ad := by
  refine mt_ofW (by decide +kernel) (Nat.le_of_ble_eq_true rfl) ?_
  intro p e s m args below meth c S hr9 hk hnm hout hC hW hS ls hl
  have hr := hr9
  have hx := S.1
  have hb := S.2.1
  have hl : lv_has ls 3 [(0, .ref (ad (160 + i)))] := hl
  refine lv_iconst (v := 0) hx hb dX0_sum_0 (by decide) ?_
  refine lv_istore_n (lv' := [(1, .int (0)), (0, .ref (ad (160 + i)))]) hx hb dX0_sum_1 rfl hl (by decide) rfl (fun ls hl => ?_)
  refine lv_iconst (v := 0) hx hb dX0_sum_2 (by decide) ?_
  refine lv_istore_n (lv' := [(2, .int (0)), (1, .int (0)), (0, .ref (ad (160 + i)))]) hx hb dX0_sum_3 rfl hl (by decide) rfl (fun ls hl => ?_)
  have hl : lv_has ls 3 [(2, .int (nI 0)), (1, .int (c_X0_sum_ln lc mc bc N G i 0)), (0, .ref (ad (160 + i)))] := lv_sub hl [0, 1, 2] rfl
  refine lp_up (c_bn (N (160 + i) 0)) (fun k => mt_wc g ad lc mc bc N G o d) (fun k => [(2, .int (nI k)), (1, .int (c_X0_sum_ln lc mc bc N G i k)), (0, .ref (ad (160 + i)))]) (fun _ => True) 0 (by omega) trivial hW hS hl (fun H locs ls hP hW hS hl => ?_) (fun k H locs ls hk0 hkn hP hW hS hl ih => ?_)
  · have hW : mt_W g z (mt_wc g ad lc mc bc N G o d) ad _ := hW
    have hl : lv_has ls 3 [(2, .int (nI (c_bn (N (160 + i) 0)))), (1, .int (c_X0_sum_ln lc mc bc N G i (c_bn (N (160 + i) 0)))), (0, .ref (ad (160 + i)))] := hl
    refine lv_iload_n hx hb dX0_sum_4 rfl (lv_at hl 0 rfl) ?_
    refine lv_aload_n hx hb dX0_sum_5 rfl (lv_at hl 2 rfl) ?_
    refine mt_get S iw_X0 hC hW (wc_bak hb6 hi) rfl 1 (by decide) mw_fl_X0_15 rfl rfl dX0_sum_6 ?_
    refine wk_alen (t := 0) S hC hW (ar_b hb6 hi) rfl dX0_sum_9 ?_
    refine lv_icmp_ge (tgt := 42) hx hb dX0_sum_10 (by decide) (fun c_1 => ?_) (fun c_1 => absurd (nI_le (a := (c_bn (N (160 + i) 0))) (b := (c_bn (N (160 + i) 0))) (Nat.le_refl _) (c_bn_lt _)) c_1)
    refine lv_iload_n hx hb dX0_sum_42 rfl (lv_at hl 1 rfl) ?_
    exact mt_ri S hr hk hW hS (by rw [c_X0_sum]) (Nat.le_of_ble_eq_true rfl) (Nat.le_of_ble_eq_true rfl) dX0_sum_43
  · have hW : mt_W g z (mt_wc g ad lc mc bc N G o d) ad _ := hW
    have hl : lv_has ls 3 [(2, .int (nI k)), (1, .int (c_X0_sum_ln lc mc bc N G i k)), (0, .ref (ad (160 + i)))] := hl
    refine lv_iload_n hx hb dX0_sum_4 rfl (lv_at hl 0 rfl) ?_
    refine lv_aload_n hx hb dX0_sum_5 rfl (lv_at hl 2 rfl) ?_
    refine mt_get S iw_X0 hC hW (wc_bak hb6 hi) rfl 1 (by decide) mw_fl_X0_15 rfl rfl dX0_sum_6 ?_
    refine wk_alen (t := 0) S hC hW (ar_b hb6 hi) rfl dX0_sum_9 ?_
    refine lv_icmp_ge (tgt := 42) hx hb dX0_sum_10 (by decide) (fun c_2 => absurd c_2 (nI_ge (a := k) (b := (c_bn (N (160 + i) 0))) hkn (c_bn_lt _))) (fun c_2 => ?_)
    refine lv_iload_n hx hb dX0_sum_13 rfl (lv_at hl 1 rfl) ?_
    refine lv_aload_n hx hb dX0_sum_14 rfl (lv_at hl 2 rfl) ?_
    refine mt_get S iw_X0 hC hW (wc_bak hb6 hi) rfl 1 (by decide) mw_fl_X0_15 rfl rfl dX0_sum_15 ?_
    refine lv_iload_n hx hb dX0_sum_18 rfl (lv_at hl 0 rfl) ?_
    refine wk_ialn S hC hW (ar_b hb6 hi) k rfl hkn (c_bn_lt _) dX0_sum_19 ?_
    refine lv_iconst (v := -1) hx hb dX0_sum_20 (by decide) ?_
    refine lv_icmp_ne (tgt := 28) hx hb dX0_sum_21 (by decide) (fun c_3 => ?_) (fun c_3 => ?_)
    · refine lv_aload_n hx hb dX0_sum_28 rfl (lv_at hl 2 rfl) ?_
      refine mt_get S iw_X0 hC hW (wc_bak hb6 hi) rfl 1 (by decide) mw_fl_X0_15 rfl rfl dX0_sum_29 ?_
      refine lv_iload_n hx hb dX0_sum_32 rfl (lv_at hl 0 rfl) ?_
      refine wk_ialn S hC hW (ar_b hb6 hi) k rfl hkn (c_bn_lt _) dX0_sum_33 ?_
      refine lv_iadd hx hb dX0_sum_34 ?_
      refine lv_istore_n (lv' := [(1, .int ((c_X0_sum_ln lc mc bc N G i k) + (G (170 + i) k))), (2, .int (nI k)), (0, .ref (ad (160 + i)))]) hx hb dX0_sum_35 rfl hl (by decide) rfl (fun ls hl => ?_)
      refine lv_iinc (v := nI (k + 1)) (lv' := [(2, .int (nI (k + 1))), (1, .int ((c_X0_sum_ln lc mc bc N G i k) + (G (170 + i) k))), (0, .ref (ad (160 + i)))]) hx hb dX0_sum_36 hl (k := 1) rfl (nI_1 _) (by decide) rfl (fun ls hl => ?_)
      refine lv_goto (tgt := 4) hx hb dX0_sum_39 (by decide) ?_
      have hl : lv_has ls 3 [(2, .int (nI (k + 1))), (1, .int (c_X0_sum_ln lc mc bc N G i (k + 1))), (0, .ref (ad (160 + i)))] := by rw [show c_X0_sum_ln lc mc bc N G i (k + 1) = (c_X0_sum_ln lc mc bc N G i k) + (G (170 + i) k) from (by rw [c_X0_sum_ln, if_neg c_3])]; exact lv_sub hl [0, 1, 2] rfl
      exact ih _ _ _ trivial hW hS hl
    · refine lv_iconst (v := 0) hx hb dX0_sum_24 (by decide) ?_
      refine lv_goto (tgt := 34) hx hb dX0_sum_25 (by decide) ?_
      refine lv_iadd hx hb dX0_sum_34 ?_
      refine lv_istore_n (lv' := [(1, .int ((c_X0_sum_ln lc mc bc N G i k) + 0)), (2, .int (nI k)), (0, .ref (ad (160 + i)))]) hx hb dX0_sum_35 rfl hl (by decide) rfl (fun ls hl => ?_)
      refine lv_iinc (v := nI (k + 1)) (lv' := [(2, .int (nI (k + 1))), (1, .int ((c_X0_sum_ln lc mc bc N G i k) + 0)), (0, .ref (ad (160 + i)))]) hx hb dX0_sum_36 hl (k := 1) rfl (nI_1 _) (by decide) rfl (fun ls hl => ?_)
      refine lv_goto (tgt := 4) hx hb dX0_sum_39 (by decide) ?_
      have hl : lv_has ls 3 [(2, .int (nI (k + 1))), (1, .int (c_X0_sum_ln lc mc bc N G i (k + 1))), (0, .ref (ad (160 + i)))] := by rw [show c_X0_sum_ln lc mc bc N G i (k + 1) = (c_X0_sum_ln lc mc bc N G i k) + 0 from (by rw [c_X0_sum_ln, if_pos c_3])]; exact lv_sub hl [0, 1, 2] rfl
      exact ih _ _ _ trivial hW hS hl
def c_X3_bytes (lc mc bc : Nat) (N G : Nat → Nat → Int32) (x : Int32) : String ⊕ Int32 := scase (c_X3_checkedBackup lc mc bc N G x) (fun E_2 => .inl E_2) (fun x_3 => .inr (c_X0_sum lc mc bc N G x_3))
set_option maxRecDepth 100000 in
set_option maxHeartbeats 4000000 in
theorem k_X3_bytes (l : Launch) (hlt : l.stackTraces = false) (g : mt_G) (z : Nat) (ad : Nat → Nat) (lc mc bc : Nat) (N G : Nat → Nat → Int32) (o : Nat → Int64) (d : mt_D) (h6 : lc ≤ 6) (h8 : mc ≤ 8) (hb6 : bc ≤ 6) (x : Int32)  : mt_K l g z yX3_bytes cX3_bytes 2 (some .int) 7 104 1 6 [.ref (ad (0)), .int x] (mt_wc g ad lc mc bc N G o d) ad (xr_i (c_X3_bytes lc mc bc N G x)) (mt_wc g ad lc mc bc N G o d) ad := by
  refine mt_ofW (by decide +kernel) (Nat.le_of_ble_eq_true rfl) ?_
  intro p e s m args below meth c S hr9 hk hnm hout hC hW hS ls hl
  have hr := hr9
  have hx := S.1
  have hb := S.2.1
  have hl : lv_has ls 2 [(0, .ref (ad (0))), (1, .int (x))] := hl
  refine lv_aload_n hx hb dX3_bytes_0 rfl (lv_at hl 0 rfl) ?_
  refine lv_iload_n hx hb dX3_bytes_1 rfl (lv_at hl 1 rfl) ?_
  rcases hq_1 : (c_X3_checkedBackup lc mc bc N G x) with E_2 | x_3
  · exact mt_cVt (As := [.int (x)]) (rest := []) S pv_X3_checkedBackup mw_ml_X3_240 (k_X3_checkedBackup l hlt g z ad lc mc bc N G o d h6 h8 hb6 x) hC hW hS wc_0 rfl rfl rfl hl.1 rfl (Nat.le_of_ble_eq_true rfl) dX3_bytes_2 ⟨(Nat.le_of_ble_eq_true rfl), (Nat.le_of_ble_eq_true rfl)⟩ ⟨(Nat.le_of_ble_eq_true rfl), (Nat.le_of_ble_eq_true rfl)⟩ (congrArg (a₂ := .inl E_2) (xr_n ad 160) hq_1) hout hk (congrArg (a₂ := .inl E_2) xr_i (by rw [c_X3_bytes, scase_l hq_1])) rfl rfl (Nat.le_of_ble_eq_true rfl) (Nat.le_of_ble_eq_true rfl)
  · refine mt_cV1 (As := [.int (x)]) (rest := []) S pv_X3_checkedBackup mw_ml_X3_240 (k_X3_checkedBackup l hlt g z ad lc mc bc N G o d h6 h8 hb6 x) hC hW hS wc_0 rfl rfl rfl hl.1 rfl (Nat.le_of_ble_eq_true rfl) dX3_bytes_2 ⟨(Nat.le_of_ble_eq_true rfl), (Nat.le_of_ble_eq_true rfl)⟩ ⟨(Nat.le_of_ble_eq_true rfl), (Nat.le_of_ble_eq_true rfl)⟩ (congrArg (a₂ := .inr x_3) (xr_n ad 160) hq_1) (fun H locs hW hS => ?_)
    have hi_x_3 := c_checkedBackup_lt hq_1
    refine mt_cV1 (As := []) (rest := []) S pv_X0_sum mw_ml_X3_244 (k_X0_sum l hlt g z ad lc mc bc N G o d h6 h8 hb6 x_3 hi_x_3) hC hW hS (wc_bak hb6 hi_x_3) rfl rfl rfl hl.1 rfl (Nat.le_of_ble_eq_true rfl) dX3_bytes_5 ⟨(Nat.le_of_ble_eq_true rfl), (Nat.le_of_ble_eq_true rfl)⟩ ⟨(Nat.le_of_ble_eq_true rfl), (Nat.le_of_ble_eq_true rfl)⟩ rfl (fun H locs hW hS => ?_)
    exact mt_ri S hr hk hW hS (congrArg (a₂ := .inr (c_X0_sum lc mc bc N G x_3)) xr_i (by rw [c_X3_bytes, scase_r hq_1])) (Nat.le_of_ble_eq_true rfl) (Nat.le_of_ble_eq_true rfl) dX3_bytes_8
def c_X3_differences_ln (lc mc bc : Nat) (N G : Nat → Nat → Int32) (x : Int32) (q : Nat) : Nat → Int32
  | 0 => 0
  | k + 1 => if (G (170 + q) k) = (c_X3_sizeNow lc mc bc N G (N (160 + q) 0) (nI k)) then (c_X3_differences_ln lc mc bc N G x q k) else (c_X3_differences_ln lc mc bc N G x q k + 1)
def c_X3_differences (lc mc bc : Nat) (N G : Nat → Nat → Int32) (x : Int32) : String ⊕ Int32 := scase (c_X3_checkedBackup lc mc bc N G x) (fun E_2 => .inl E_2) (fun x_3 => .inr (c_X3_differences_ln lc mc bc N G x x_3 (c_bn (N (160 + x_3) 0))))
set_option maxRecDepth 100000 in
set_option maxHeartbeats 4000000 in
theorem k_X3_differences (l : Launch) (hlt : l.stackTraces = false) (g : mt_G) (z : Nat) (ad : Nat → Nat) (lc mc bc : Nat) (N G : Nat → Nat → Int32) (o : Nat → Int64) (d : mt_D) (h6 : lc ≤ 6) (h8 : mc ≤ 8) (hb6 : bc ≤ 6) (x : Int32)  : mt_K l g z yX3_differences cX3_differences 5 (some .int) 7 131 1 6 [.ref (ad (0)), .int x] (mt_wc g ad lc mc bc N G o d) ad (xr_i (c_X3_differences lc mc bc N G x)) (mt_wc g ad lc mc bc N G o d) ad := by
  refine mt_ofW (by decide +kernel) (Nat.le_of_ble_eq_true rfl) ?_
  intro p e s m args below meth c S hr9 hk hnm hout hC hW hS ls hl
  have hr := hr9
  have hx := S.1
  have hb := S.2.1
  have hl : lv_has ls 5 [(0, .ref (ad (0))), (1, .int (x))] := hl
  refine lv_aload_n hx hb dX3_differences_0 rfl (lv_at hl 0 rfl) ?_
  refine lv_iload_n hx hb dX3_differences_1 rfl (lv_at hl 1 rfl) ?_
  rcases hq_1 : (c_X3_checkedBackup lc mc bc N G x) with E_2 | x_3
  · exact mt_cVt (As := [.int (x)]) (rest := []) S pv_X3_checkedBackup mw_ml_X3_240 (k_X3_checkedBackup l hlt g z ad lc mc bc N G o d h6 h8 hb6 x) hC hW hS wc_0 rfl rfl rfl hl.1 rfl (Nat.le_of_ble_eq_true rfl) dX3_differences_2 ⟨(Nat.le_of_ble_eq_true rfl), (Nat.le_of_ble_eq_true rfl)⟩ ⟨(Nat.le_of_ble_eq_true rfl), (Nat.le_of_ble_eq_true rfl)⟩ (congrArg (a₂ := .inl E_2) (xr_n ad 160) hq_1) hout hk (congrArg (a₂ := .inl E_2) xr_i (by rw [c_X3_differences, scase_l hq_1])) rfl rfl (Nat.le_of_ble_eq_true rfl) (Nat.le_of_ble_eq_true rfl)
  · refine mt_cV1 (As := [.int (x)]) (rest := []) S pv_X3_checkedBackup mw_ml_X3_240 (k_X3_checkedBackup l hlt g z ad lc mc bc N G o d h6 h8 hb6 x) hC hW hS wc_0 rfl rfl rfl hl.1 rfl (Nat.le_of_ble_eq_true rfl) dX3_differences_2 ⟨(Nat.le_of_ble_eq_true rfl), (Nat.le_of_ble_eq_true rfl)⟩ ⟨(Nat.le_of_ble_eq_true rfl), (Nat.le_of_ble_eq_true rfl)⟩ (congrArg (a₂ := .inr x_3) (xr_n ad 160) hq_1) (fun H locs hW hS => ?_)
    have hi_x_3 := c_checkedBackup_lt hq_1
    refine lv_astore_n (lv' := [(2, .ref (ad (160 + x_3))), (0, .ref (ad (0))), (1, .int (x))]) hx hb dX3_differences_5 rfl hl (by decide) rfl (fun ls hl => ?_)
    refine lv_iconst (v := 0) hx hb dX3_differences_6 (by decide) ?_
    refine lv_istore_n (lv' := [(3, .int (0)), (2, .ref (ad (160 + x_3))), (0, .ref (ad (0))), (1, .int (x))]) hx hb dX3_differences_7 rfl hl (by decide) rfl (fun ls hl => ?_)
    refine lv_iconst (v := 0) hx hb dX3_differences_8 (by decide) ?_
    refine lv_istore (lv' := [(4, .int (0)), (3, .int (0)), (2, .ref (ad (160 + x_3))), (0, .ref (ad (0))), (1, .int (x))]) hx hb dX3_differences_9 hl (by decide) rfl (fun ls hl => ?_)
    have hl : lv_has ls 5 [(4, .int (nI 0)), (3, .int (c_X3_differences_ln lc mc bc N G x x_3 0)), (0, .ref (ad (0))), (2, .ref (ad (160 + x_3)))] := lv_sub hl [0, 1, 3, 2] rfl
    refine lp_up (c_bn (N (160 + x_3) 0)) (fun k => mt_wc g ad lc mc bc N G o d) (fun k => [(4, .int (nI k)), (3, .int (c_X3_differences_ln lc mc bc N G x x_3 k)), (0, .ref (ad (0))), (2, .ref (ad (160 + x_3)))]) (fun _ => True) 0 (by omega) trivial hW hS hl (fun H locs ls hP hW hS hl => ?_) (fun k H locs ls hk0 hkn hP hW hS hl ih => ?_)
    · have hW : mt_W g z (mt_wc g ad lc mc bc N G o d) ad _ := hW
      have hl : lv_has ls 5 [(4, .int (nI (c_bn (N (160 + x_3) 0)))), (3, .int (c_X3_differences_ln lc mc bc N G x x_3 (c_bn (N (160 + x_3) 0)))), (0, .ref (ad (0))), (2, .ref (ad (160 + x_3)))] := hl
      refine lv_iload hx hb dX3_differences_11 (lv_at hl 0 rfl) ?_
      refine lv_aload_n hx hb dX3_differences_13 rfl (lv_at hl 3 rfl) ?_
      refine mt_getN S iw_X0 hC hW (wc_bak hb6 hi_x_3) rfl 1 (by decide) mw_fn_X3_233 rfl rfl dX3_differences_14 ?_
      refine wk_alen (t := 0) S hC hW (ar_b hb6 hi_x_3) rfl dX3_differences_17 ?_
      refine lv_icmp_ge (tgt := 50) hx hb dX3_differences_18 (by decide) (fun c_4 => ?_) (fun c_4 => absurd (nI_le (a := (c_bn (N (160 + x_3) 0))) (b := (c_bn (N (160 + x_3) 0))) (Nat.le_refl _) (c_bn_lt _)) c_4)
      refine lv_iload_n hx hb dX3_differences_50 rfl (lv_at hl 1 rfl) ?_
      exact mt_ri S hr hk hW hS (congrArg (a₂ := .inr (c_X3_differences_ln lc mc bc N G x x_3 (c_bn (N (160 + x_3) 0)))) xr_i (by rw [c_X3_differences, scase_r hq_1])) (Nat.le_of_ble_eq_true rfl) (Nat.le_of_ble_eq_true rfl) dX3_differences_51
    · have hW : mt_W g z (mt_wc g ad lc mc bc N G o d) ad _ := hW
      have hl : lv_has ls 5 [(4, .int (nI k)), (3, .int (c_X3_differences_ln lc mc bc N G x x_3 k)), (0, .ref (ad (0))), (2, .ref (ad (160 + x_3)))] := hl
      refine lv_iload hx hb dX3_differences_11 (lv_at hl 0 rfl) ?_
      refine lv_aload_n hx hb dX3_differences_13 rfl (lv_at hl 3 rfl) ?_
      refine mt_getN S iw_X0 hC hW (wc_bak hb6 hi_x_3) rfl 1 (by decide) mw_fn_X3_233 rfl rfl dX3_differences_14 ?_
      refine wk_alen (t := 0) S hC hW (ar_b hb6 hi_x_3) rfl dX3_differences_17 ?_
      refine lv_icmp_ge (tgt := 50) hx hb dX3_differences_18 (by decide) (fun c_5 => absurd c_5 (nI_ge (a := k) (b := (c_bn (N (160 + x_3) 0))) hkn (c_bn_lt _))) (fun c_5 => ?_)
      refine lv_aload_n hx hb dX3_differences_21 rfl (lv_at hl 3 rfl) ?_
      refine mt_getN S iw_X0 hC hW (wc_bak hb6 hi_x_3) rfl 1 (by decide) mw_fn_X3_233 rfl rfl dX3_differences_22 ?_
      refine lv_iload hx hb dX3_differences_25 (lv_at hl 0 rfl) ?_
      refine wk_ialn S hC hW (ar_b hb6 hi_x_3) k rfl hkn (c_bn_lt _) dX3_differences_27 ?_
      refine lv_aload_n hx hb dX3_differences_28 rfl (lv_at hl 2 rfl) ?_
      refine lv_aload_n hx hb dX3_differences_29 rfl (lv_at hl 3 rfl) ?_
      refine mt_getN S iw_X0 hC hW (wc_bak hb6 hi_x_3) rfl 0 (by decide) mw_fn_X3_247 rfl rfl dX3_differences_30 ?_
      refine lv_iload hx hb dX3_differences_33 (lv_at hl 0 rfl) ?_
      refine mt_cV1 (As := [.int (N (160 + x_3) 0), .int (nI k)]) (rest := [.int (G (170 + x_3) k)]) S pv_X3_sizeNow mw_ml_X3_236 (k_X3_sizeNow l hlt g z ad lc mc bc N G o d h6 h8 hb6 (N (160 + x_3) 0) (nI k)) hC hW hS wc_0 rfl rfl rfl hl.1 rfl (Nat.le_of_ble_eq_true rfl) dX3_differences_35 ⟨(Nat.le_of_ble_eq_true rfl), (Nat.le_of_ble_eq_true rfl)⟩ ⟨(Nat.le_of_ble_eq_true rfl), (Nat.le_of_ble_eq_true rfl)⟩ rfl (fun H locs hW hS => ?_)
      refine lv_icmp_eq (tgt := 44) hx hb dX3_differences_38 (by decide) (fun c_6 => ?_) (fun c_6 => ?_)
      · refine lv_iinc (v := nI (k + 1)) (lv' := [(4, .int (nI (k + 1))), (3, .int (c_X3_differences_ln lc mc bc N G x x_3 k)), (0, .ref (ad (0))), (2, .ref (ad (160 + x_3)))]) hx hb dX3_differences_44 hl (k := 0) rfl (nI_1 _) (by decide) rfl (fun ls hl => ?_)
        refine lv_goto (tgt := 11) hx hb dX3_differences_47 (by decide) ?_
        have hl : lv_has ls 5 [(4, .int (nI (k + 1))), (3, .int (c_X3_differences_ln lc mc bc N G x x_3 (k + 1))), (0, .ref (ad (0))), (2, .ref (ad (160 + x_3)))] := by rw [show c_X3_differences_ln lc mc bc N G x x_3 (k + 1) = c_X3_differences_ln lc mc bc N G x x_3 k from (by rw [c_X3_differences_ln, if_pos c_6])]; exact lv_sub hl [0, 1, 2, 3] rfl
        exact ih _ _ _ trivial hW hS hl
      · refine lv_iinc (v := c_X3_differences_ln lc mc bc N G x x_3 k + 1) (lv' := [(3, .int (c_X3_differences_ln lc mc bc N G x x_3 k + 1)), (4, .int (nI k)), (0, .ref (ad (0))), (2, .ref (ad (160 + x_3)))]) hx hb dX3_differences_41 hl (k := 1) rfl rfl (by decide) rfl (fun ls hl => ?_)
        refine lv_iinc (v := nI (k + 1)) (lv' := [(4, .int (nI (k + 1))), (3, .int (c_X3_differences_ln lc mc bc N G x x_3 k + 1)), (0, .ref (ad (0))), (2, .ref (ad (160 + x_3)))]) hx hb dX3_differences_44 hl (k := 1) rfl (nI_1 _) (by decide) rfl (fun ls hl => ?_)
        refine lv_goto (tgt := 11) hx hb dX3_differences_47 (by decide) ?_
        have hl : lv_has ls 5 [(4, .int (nI (k + 1))), (3, .int (c_X3_differences_ln lc mc bc N G x x_3 (k + 1))), (0, .ref (ad (0))), (2, .ref (ad (160 + x_3)))] := by rw [show c_X3_differences_ln lc mc bc N G x x_3 (k + 1) = c_X3_differences_ln lc mc bc N G x x_3 k + 1 from (by rw [c_X3_differences_ln, if_neg c_6])]; exact lv_sub hl [0, 1, 2, 3] rfl
        exact ih _ _ _ trivial hW hS hl
def c_X3_shownShare (lc mc bc : Nat) (N G : Nat → Nat → Int32)  : String ⊕ UInt32 := if (c_X3_allBytes lc mc bc N G) = 0 then (.inl "java/lang/ArithmeticException") else (.inr (FP.fdiv (FP.i2f (c_X3_shownBytes lc mc bc N G)) (FP.i2f (c_X3_allBytes lc mc bc N G))))
def c_X3_shownShare_G (lc mc bc : Nat) (N G : Nat → Nat → Int32)  : Nat → Nat → Int32 := if (c_X3_allBytes lc mc bc N G) = 0 then G else (c_X3_shownBytes_G lc mc bc N G)
set_option maxRecDepth 100000 in
set_option maxHeartbeats 4000000 in
theorem k_X3_shownShare (l : Launch) (hlt : l.stackTraces = false) (g : mt_G) (z : Nat) (ad : Nat → Nat) (lc mc bc : Nat) (N G : Nat → Nat → Int32) (o : Nat → Int64) (d : mt_D) (h6 : lc ≤ 6) (h8 : mc ≤ 8) (hb6 : bc ≤ 6)   : mt_K l g z yX3_shownShare cX3_shownShare 2 (some .float) 6 111 1 6 [.ref (ad (0))] (mt_wc g ad lc mc bc N G o d) ad (xr_f (c_X3_shownShare lc mc bc N G)) (mt_wc g ad lc mc bc N (c_X3_shownShare_G lc mc bc N G) o d) ad := by
  refine mt_ofW (by decide +kernel) (Nat.le_of_ble_eq_true rfl) ?_
  intro p e s m args below meth c S hr9 hk hnm hout hC hW hS ls hl
  have hr := hr9
  have hx := S.1
  have hb := S.2.1
  have hl : lv_has ls 2 [(0, .ref (ad (0)))] := hl
  refine lv_aload_n hx hb dX3_shownShare_0 rfl (lv_at hl 0 rfl) ?_
  refine mt_cV1 (As := []) (rest := []) S pv_X3_allBytes mw_ml_X3_213 (k_X3_allBytes l hlt g z ad lc mc bc N G o d h6 h8 hb6 ) hC hW hS wc_0 rfl rfl rfl hl.1 rfl (Nat.le_of_ble_eq_true rfl) dX3_shownShare_1 ⟨(Nat.le_of_ble_eq_true rfl), (Nat.le_of_ble_eq_true rfl)⟩ ⟨(Nat.le_of_ble_eq_true rfl), (Nat.le_of_ble_eq_true rfl)⟩ rfl (fun H locs hW hS => ?_)
  refine lv_istore_n (lv' := [(1, .int (c_X3_allBytes lc mc bc N G)), (0, .ref (ad (0)))]) hx hb dX3_shownShare_4 rfl hl (by decide) rfl (fun ls hl => ?_)
  refine lv_iload_n hx hb dX3_shownShare_5 rfl (lv_at hl 0 rfl) ?_
  refine lv_if_ne (tgt := 19) hx hb dX3_shownShare_6 (by decide) (fun c_1 => ?_) (fun c_1 => ?_)
  · refine lv_aload_n hx hb dX3_shownShare_19 rfl (lv_at hl 1 rfl) ?_
    refine mt_cV1 (As := []) (rest := []) S pv_X3_shownBytes mw_ml_X3_216 (k_X3_shownBytes l hlt g z ad lc mc bc N G o d h6 h8 hb6 ) hC hW hS wc_0 rfl rfl rfl hl.1 rfl (Nat.le_of_ble_eq_true rfl) dX3_shownShare_20 ⟨(Nat.le_of_ble_eq_true rfl), (Nat.le_of_ble_eq_true rfl)⟩ ⟨(Nat.le_of_ble_eq_true rfl), (Nat.le_of_ble_eq_true rfl)⟩ rfl (fun H locs hW hS => ?_)
    refine lv_i2f hx hb dX3_shownShare_23 ?_
    refine lv_iload_n hx hb dX3_shownShare_24 rfl (lv_at hl 0 rfl) ?_
    refine lv_i2f hx hb dX3_shownShare_25 ?_
    refine lv_fdiv hx hb dX3_shownShare_26 (nn_f _ _ c_1) ?_
    have hW := hW.to (w1 := mt_wc g ad lc mc bc N (c_X3_shownShare_G lc mc bc N G) o d) (by rw [c_X3_shownShare_G, if_neg c_1])
    exact mt_rf S hr hk hW hS (congrArg (a₂ := .inr (FP.fdiv (FP.i2f (c_X3_shownBytes lc mc bc N G)) (FP.i2f (c_X3_allBytes lc mc bc N G)))) xr_f (by rw [c_X3_shownShare, if_neg c_1])) (Nat.le_of_ble_eq_true rfl) (Nat.le_of_ble_eq_true rfl) dX3_shownShare_27
  · have hW := hW.to (w1 := mt_wc g ad lc mc bc N (c_X3_shownShare_G lc mc bc N G) o d) (by rw [c_X3_shownShare_G, if_pos c_1])
    exact mt_throw S hlt mp_ARE (List.mem_of_getElem? (i := 19) rfl) hC hW hS hl.1 hout hk (congrArg (a₂ := .inl "java/lang/ArithmeticException") xr_f (by rw [c_X3_shownShare, if_pos c_1])) dX3_shownShare_9 dX3_shownShare_12 dX3_shownShare_13 dX3_shownShare_15 dX3_shownShare_18 (Nat.le_of_ble_eq_true rfl) (Nat.le_of_ble_eq_true rfl) ⟨(Nat.le_of_ble_eq_true rfl), (Nat.le_of_ble_eq_true rfl)⟩ (Nat.le_of_ble_eq_true rfl) (Nat.le_of_ble_eq_true rfl)
def c_X3_meanSize (lc mc bc : Nat) (N G : Nat → Nat → Int32) (x : Int32) : String ⊕ UInt64 := scase (c_X3_checkedLayer lc mc bc N G x) (fun E_2 => .inl E_2) (fun x_3 => if (c_X1_countOf lc mc bc N G x_3 1) = 0 then (.inl "java/lang/ArithmeticException") else (.inr (FP.ddiv (FP.i2d (c_X1_allBytesOfFiles lc mc bc N G x_3)) (FP.i2d (c_X1_countOf lc mc bc N G x_3 1)))))
set_option maxRecDepth 100000 in
set_option maxHeartbeats 4000000 in
theorem k_X3_meanSize (l : Launch) (hlt : l.stackTraces = false) (g : mt_G) (z : Nat) (ad : Nat → Nat) (lc mc bc : Nat) (N G : Nat → Nat → Int32) (o : Nat → Int64) (d : mt_D) (h6 : lc ≤ 6) (h8 : mc ≤ 8) (hb6 : bc ≤ 6) (x : Int32)  : mt_K l g z yX3_meanSize cX3_meanSize 4 (some .double) 7 104 2 12 [.ref (ad (0)), .int x] (mt_wc g ad lc mc bc N G o d) ad (xr_d (c_X3_meanSize lc mc bc N G x)) (mt_wc g ad lc mc bc N G o d) ad := by
  refine mt_ofW (by decide +kernel) (Nat.le_of_ble_eq_true rfl) ?_
  intro p e s m args below meth c S hr9 hk hnm hout hC hW hS ls hl
  have hr := hr9
  have hx := S.1
  have hb := S.2.1
  have hl : lv_has ls 4 [(0, .ref (ad (0))), (1, .int (x))] := hl
  refine lv_aload_n hx hb dX3_meanSize_0 rfl (lv_at hl 0 rfl) ?_
  refine lv_iload_n hx hb dX3_meanSize_1 rfl (lv_at hl 1 rfl) ?_
  rcases hq_1 : (c_X3_checkedLayer lc mc bc N G x) with E_2 | x_3
  · exact mt_cVt (As := [.int (x)]) (rest := []) S pv_X3_checkedLayer mw_ml_X3_222 (k_X3_checkedLayer l hlt g z ad lc mc bc N G o d h6 h8 hb6 x) hC hW hS wc_0 rfl rfl rfl hl.1 rfl (Nat.le_of_ble_eq_true rfl) dX3_meanSize_2 ⟨(Nat.le_of_ble_eq_true rfl), (Nat.le_of_ble_eq_true rfl)⟩ ⟨(Nat.le_of_ble_eq_true rfl), (Nat.le_of_ble_eq_true rfl)⟩ (congrArg (a₂ := .inl E_2) (xr_n ad 100) hq_1) hout hk (congrArg (a₂ := .inl E_2) xr_d (by rw [c_X3_meanSize, scase_l hq_1])) rfl rfl (Nat.le_of_ble_eq_true rfl) (Nat.le_of_ble_eq_true rfl)
  · refine mt_cV1 (As := [.int (x)]) (rest := []) S pv_X3_checkedLayer mw_ml_X3_222 (k_X3_checkedLayer l hlt g z ad lc mc bc N G o d h6 h8 hb6 x) hC hW hS wc_0 rfl rfl rfl hl.1 rfl (Nat.le_of_ble_eq_true rfl) dX3_meanSize_2 ⟨(Nat.le_of_ble_eq_true rfl), (Nat.le_of_ble_eq_true rfl)⟩ ⟨(Nat.le_of_ble_eq_true rfl), (Nat.le_of_ble_eq_true rfl)⟩ (congrArg (a₂ := .inr x_3) (xr_n ad 100) hq_1) (fun H locs hW hS => ?_)
    have hi_x_3 := c_checkedLayer_lt hq_1
    refine lv_astore_n (lv' := [(2, .ref (ad (100 + x_3))), (0, .ref (ad (0))), (1, .int (x))]) hx hb dX3_meanSize_5 rfl hl (by decide) rfl (fun ls hl => ?_)
    refine lv_aload_n hx hb dX3_meanSize_6 rfl (lv_at hl 0 rfl) ?_
    refine lv_iconst (v := 1) hx hb dX3_meanSize_7 (by decide) ?_
    refine mt_cV1 (As := [.int (1)]) (rest := []) S pv_X1_countOf mw_ml_X3_149 (k_X1_countOf l hlt g z ad lc mc bc N G o d h6 h8 hb6 x_3 1 hi_x_3) hC hW hS (wc_lay h6 hi_x_3) rfl rfl rfl hl.1 rfl (Nat.le_of_ble_eq_true rfl) dX3_meanSize_8 ⟨(Nat.le_of_ble_eq_true rfl), (Nat.le_of_ble_eq_true rfl)⟩ ⟨(Nat.le_of_ble_eq_true rfl), (Nat.le_of_ble_eq_true rfl)⟩ rfl (fun H locs hW hS => ?_)
    refine lv_istore_n (lv' := [(3, .int (c_X1_countOf lc mc bc N G x_3 1)), (2, .ref (ad (100 + x_3))), (0, .ref (ad (0))), (1, .int (x))]) hx hb dX3_meanSize_11 rfl hl (by decide) rfl (fun ls hl => ?_)
    refine lv_iload_n hx hb dX3_meanSize_12 rfl (lv_at hl 0 rfl) ?_
    refine lv_if_ne (tgt := 26) hx hb dX3_meanSize_13 (by decide) (fun c_4 => ?_) (fun c_4 => ?_)
    · refine lv_aload_n hx hb dX3_meanSize_26 rfl (lv_at hl 1 rfl) ?_
      refine mt_cV1 (As := []) (rest := []) S pv_X1_allBytesOfFiles mw_ml_X3_257 (k_X1_allBytesOfFiles l hlt g z ad lc mc bc N G o d h6 h8 hb6 x_3 hi_x_3) hC hW hS (wc_lay h6 hi_x_3) rfl rfl rfl hl.1 rfl (Nat.le_of_ble_eq_true rfl) dX3_meanSize_27 ⟨(Nat.le_of_ble_eq_true rfl), (Nat.le_of_ble_eq_true rfl)⟩ ⟨(Nat.le_of_ble_eq_true rfl), (Nat.le_of_ble_eq_true rfl)⟩ rfl (fun H locs hW hS => ?_)
      refine lv_i2d hx hb dX3_meanSize_30 ?_
      refine lv_iload_n hx hb dX3_meanSize_31 rfl (lv_at hl 0 rfl) ?_
      refine lv_i2d hx hb dX3_meanSize_32 ?_
      refine lv_ddiv hx hb dX3_meanSize_33 (nn_d _ _ c_4) ?_
      exact mt_rd S hr hk hW hS (congrArg (a₂ := .inr (FP.ddiv (FP.i2d (c_X1_allBytesOfFiles lc mc bc N G x_3)) (FP.i2d (c_X1_countOf lc mc bc N G x_3 1)))) xr_d (by rw [c_X3_meanSize, scase_r hq_1, if_neg c_4])) (Nat.le_of_ble_eq_true rfl) (Nat.le_of_ble_eq_true rfl) dX3_meanSize_34
    · exact mt_throw S hlt mp_ARE (List.mem_of_getElem? (i := 20) rfl) hC hW hS hl.1 hout hk (congrArg (a₂ := .inl "java/lang/ArithmeticException") xr_d (by rw [c_X3_meanSize, scase_r hq_1, if_pos c_4])) dX3_meanSize_16 dX3_meanSize_19 dX3_meanSize_20 dX3_meanSize_22 dX3_meanSize_25 (Nat.le_of_ble_eq_true rfl) (Nat.le_of_ble_eq_true rfl) ⟨(Nat.le_of_ble_eq_true rfl), (Nat.le_of_ble_eq_true rfl)⟩ (Nat.le_of_ble_eq_true rfl) (Nat.le_of_ble_eq_true rfl)
def c_X3_covered_ln (lc mc bc : Nat) (N G : Nat → Nat → Int32)  : Nat → Int32
  | 0 => 0
  | k + 1 => ocase (c_X3_mountThere lc mc bc N G (nI k)) (c_X3_covered_ln lc mc bc N G k) (fun i_4 => if (c_X3_serverAt lc mc bc N G (c_X3_placeOf (N (150 + i_4) 2))) = (nI k) then (c_X3_covered_ln lc mc bc N G k) else (c_X3_covered_ln lc mc bc N G k + 1))
def c_X3_covered (lc mc bc : Nat) (N G : Nat → Nat → Int32)  : Int32 := c_X3_covered_ln lc mc bc N G mc
set_option maxRecDepth 100000 in
set_option maxHeartbeats 4000000 in
theorem k_X3_covered (l : Launch) (hlt : l.stackTraces = false) (g : mt_G) (z : Nat) (ad : Nat → Nat) (lc mc bc : Nat) (N G : Nat → Nat → Int32) (o : Nat → Int64) (d : mt_D) (h6 : lc ≤ 6) (h8 : mc ≤ 8) (hb6 : bc ≤ 6)   : mt_K l g z yX3_covered cX3_covered 4 (some .int) 2 41 0 0 [.ref (ad (0))] (mt_wc g ad lc mc bc N G o d) ad (.inr (some (.int (c_X3_covered lc mc bc N G)))) (mt_wc g ad lc mc bc N G o d) ad := by
  refine mt_ofW (by decide +kernel) (Nat.le_of_ble_eq_true rfl) ?_
  intro p e s m args below meth c S hr9 hk hnm hout hC hW hS ls hl
  have hr := hr9
  have hx := S.1
  have hb := S.2.1
  have hl : lv_has ls 4 [(0, .ref (ad (0)))] := hl
  refine lv_iconst (v := 0) hx hb dX3_covered_0 (by decide) ?_
  refine lv_istore_n (lv' := [(1, .int (0)), (0, .ref (ad (0)))]) hx hb dX3_covered_1 rfl hl (by decide) rfl (fun ls hl => ?_)
  refine lv_iconst (v := 0) hx hb dX3_covered_2 (by decide) ?_
  refine lv_istore_n (lv' := [(2, .int (0)), (1, .int (0)), (0, .ref (ad (0)))]) hx hb dX3_covered_3 rfl hl (by decide) rfl (fun ls hl => ?_)
  have hl : lv_has ls 4 [(2, .int (nI 0)), (1, .int (c_X3_covered_ln lc mc bc N G 0)), (0, .ref (ad (0)))] := lv_sub hl [0, 1, 2] rfl
  refine lp_up mc (fun k => mt_wc g ad lc mc bc N G o d) (fun k => [(2, .int (nI k)), (1, .int (c_X3_covered_ln lc mc bc N G k)), (0, .ref (ad (0)))]) (fun _ => True) 0 (by omega) trivial hW hS hl (fun H locs ls hP hW hS hl => ?_) (fun k H locs ls hk0 hkn hP hW hS hl ih => ?_)
  · have hW : mt_W g z (mt_wc g ad lc mc bc N G o d) ad _ := hW
    have hl : lv_has ls 4 [(2, .int (nI mc)), (1, .int (c_X3_covered_ln lc mc bc N G mc)), (0, .ref (ad (0)))] := hl
    refine lv_iload_n hx hb dX3_covered_4 rfl (lv_at hl 0 rfl) ?_
    refine lv_aload_n hx hb dX3_covered_5 rfl (lv_at hl 2 rfl) ?_
    refine mt_get S iw_X3 hC hW wc_0 rfl 8 (by decide) mw_fl_X3_82 rfl rfl dX3_covered_6 ?_
    refine lv_icmp_ge (tgt := 46) hx hb dX3_covered_9 (by decide) (fun c_1 => ?_) (fun c_1 => absurd (nI_le (a := mc) (b := mc) (Nat.le_refl _) (by omega)) c_1)
    refine lv_iload_n hx hb dX3_covered_46 rfl (lv_at hl 1 rfl) ?_
    exact mt_ri S hr hk hW hS (by rw [c_X3_covered]) (Nat.le_of_ble_eq_true rfl) (Nat.le_of_ble_eq_true rfl) dX3_covered_47
  · have hW : mt_W g z (mt_wc g ad lc mc bc N G o d) ad _ := hW
    have hl : lv_has ls 4 [(2, .int (nI k)), (1, .int (c_X3_covered_ln lc mc bc N G k)), (0, .ref (ad (0)))] := hl
    refine lv_iload_n hx hb dX3_covered_4 rfl (lv_at hl 0 rfl) ?_
    refine lv_aload_n hx hb dX3_covered_5 rfl (lv_at hl 2 rfl) ?_
    refine mt_get S iw_X3 hC hW wc_0 rfl 8 (by decide) mw_fl_X3_82 rfl rfl dX3_covered_6 ?_
    refine lv_icmp_ge (tgt := 46) hx hb dX3_covered_9 (by decide) (fun c_2 => absurd c_2 (nI_ge (a := k) (b := mc) hkn (by omega))) (fun c_2 => ?_)
    refine lv_aload_n hx hb dX3_covered_12 rfl (lv_at hl 2 rfl) ?_
    refine lv_iload_n hx hb dX3_covered_13 rfl (lv_at hl 0 rfl) ?_
    rcases hq_3 : (c_X3_mountThere lc mc bc N G (nI k)) with _ | i_4
    · refine mt_cV1 (v := .null) (As := [.int (nI k)]) (rest := []) S pv_X3_mountThere mw_ml_X3_101 (k_X3_mountThere l hlt g z ad lc mc bc N G o d h6 h8 hb6 (nI k)) hC hW hS wc_0 rfl rfl rfl hl.1 rfl (Nat.le_of_ble_eq_true rfl) dX3_covered_14 ⟨(Nat.le_of_ble_eq_true rfl), (Nat.le_of_ble_eq_true rfl)⟩ ⟨(Nat.le_of_ble_eq_true rfl), (Nat.le_of_ble_eq_true rfl)⟩ (congrArg (a₂ := none) (xr_a ad 150) hq_3) (fun H locs hW hS => ?_)
      refine lv_astore_nN (lv' := [(3, .null), (2, .int (nI k)), (1, .int (c_X3_covered_ln lc mc bc N G k)), (0, .ref (ad (0)))]) hx hb dX3_covered_17 rfl hl (by decide) rfl (fun ls hl => ?_)
      refine lv_aload_nN hx hb dX3_covered_18 rfl (lv_at hl 0 rfl) ?_
      refine lv_ifnullN (tgt := 40) hx hb dX3_covered_19 (by decide) ?_
      refine lv_iinc (v := nI (k + 1)) (lv' := [(2, .int (nI (k + 1))), (3, .null), (1, .int (c_X3_covered_ln lc mc bc N G k)), (0, .ref (ad (0)))]) hx hb dX3_covered_40 hl (k := 1) rfl (nI_1 _) (by decide) rfl (fun ls hl => ?_)
      refine lv_goto (tgt := 4) hx hb dX3_covered_43 (by decide) ?_
      have hl : lv_has ls 4 [(2, .int (nI (k + 1))), (1, .int (c_X3_covered_ln lc mc bc N G (k + 1))), (0, .ref (ad (0)))] := by rw [show c_X3_covered_ln lc mc bc N G (k + 1) = c_X3_covered_ln lc mc bc N G k from (by rw [c_X3_covered_ln, ocase_n hq_3])]; exact lv_sub hl [0, 2, 3] rfl
      exact ih _ _ _ trivial hW hS hl
    · refine mt_cV1 (v := .ref (ad (150 + i_4))) (As := [.int (nI k)]) (rest := []) S pv_X3_mountThere mw_ml_X3_101 (k_X3_mountThere l hlt g z ad lc mc bc N G o d h6 h8 hb6 (nI k)) hC hW hS wc_0 rfl rfl rfl hl.1 rfl (Nat.le_of_ble_eq_true rfl) dX3_covered_14 ⟨(Nat.le_of_ble_eq_true rfl), (Nat.le_of_ble_eq_true rfl)⟩ ⟨(Nat.le_of_ble_eq_true rfl), (Nat.le_of_ble_eq_true rfl)⟩ (congrArg (a₂ := some i_4) (xr_a ad 150) hq_3) (fun H locs hW hS => ?_)
      have hi_i_4 := c_mountThere_lt hq_3
      refine lv_astore_n (lv' := [(3, .ref (ad (150 + i_4))), (2, .int (nI k)), (1, .int (c_X3_covered_ln lc mc bc N G k)), (0, .ref (ad (0)))]) hx hb dX3_covered_17 rfl hl (by decide) rfl (fun ls hl => ?_)
      refine lv_aload_n hx hb dX3_covered_18 rfl (lv_at hl 0 rfl) ?_
      refine lv_ifnull hx hb dX3_covered_19 ?_
      refine lv_aload_n hx hb dX3_covered_22 rfl (lv_at hl 3 rfl) ?_
      refine lv_aload_n hx hb dX3_covered_23 rfl (lv_at hl 0 rfl) ?_
      refine mt_getN S iw_X2 hC hW (wc_mnt h8 hi_i_4) rfl 2 (by decide) mw_fn_X3_107 rfl rfl dX3_covered_24 ?_
      refine mt_cS1 (As := [.int (N (150 + i_4) 2)]) (rest := [.ref (ad (0))]) S ps_X3_placeOf mw_ml_X3_52 (k_X3_placeOf l hlt g z ad lc mc bc N G o d h6 h8 hb6 (N (150 + i_4) 2)) hC hW hS rfl hl.1 rfl (Nat.le_of_ble_eq_true rfl) dX3_covered_27 ⟨(Nat.le_of_ble_eq_true rfl), (Nat.le_of_ble_eq_true rfl)⟩ ⟨(Nat.le_of_ble_eq_true rfl), (Nat.le_of_ble_eq_true rfl)⟩ rfl (fun H locs hW hS => ?_)
      refine mt_cV1 (As := [.int (c_X3_placeOf (N (150 + i_4) 2))]) (rest := []) S pv_X3_serverAt mw_ml_X3_113 (k_X3_serverAt l hlt g z ad lc mc bc N G o d h6 h8 hb6 (c_X3_placeOf (N (150 + i_4) 2))) hC hW hS wc_0 rfl rfl rfl hl.1 rfl (Nat.le_of_ble_eq_true rfl) dX3_covered_30 ⟨(Nat.le_of_ble_eq_true rfl), (Nat.le_of_ble_eq_true rfl)⟩ ⟨(Nat.le_of_ble_eq_true rfl), (Nat.le_of_ble_eq_true rfl)⟩ rfl (fun H locs hW hS => ?_)
      refine lv_iload_n hx hb dX3_covered_33 rfl (lv_at hl 1 rfl) ?_
      refine lv_icmp_eq (tgt := 40) hx hb dX3_covered_34 (by decide) (fun c_5 => ?_) (fun c_5 => ?_)
      · refine lv_iinc (v := nI (k + 1)) (lv' := [(2, .int (nI (k + 1))), (3, .ref (ad (150 + i_4))), (1, .int (c_X3_covered_ln lc mc bc N G k)), (0, .ref (ad (0)))]) hx hb dX3_covered_40 hl (k := 1) rfl (nI_1 _) (by decide) rfl (fun ls hl => ?_)
        refine lv_goto (tgt := 4) hx hb dX3_covered_43 (by decide) ?_
        have hl : lv_has ls 4 [(2, .int (nI (k + 1))), (1, .int (c_X3_covered_ln lc mc bc N G (k + 1))), (0, .ref (ad (0)))] := by rw [show c_X3_covered_ln lc mc bc N G (k + 1) = c_X3_covered_ln lc mc bc N G k from (by rw [c_X3_covered_ln, ocase_s hq_3, if_pos c_5])]; exact lv_sub hl [0, 2, 3] rfl
        exact ih _ _ _ trivial hW hS hl
      · refine lv_iinc (v := c_X3_covered_ln lc mc bc N G k + 1) (lv' := [(1, .int (c_X3_covered_ln lc mc bc N G k + 1)), (3, .ref (ad (150 + i_4))), (2, .int (nI k)), (0, .ref (ad (0)))]) hx hb dX3_covered_37 hl (k := 2) rfl rfl (by decide) rfl (fun ls hl => ?_)
        refine lv_iinc (v := nI (k + 1)) (lv' := [(2, .int (nI (k + 1))), (1, .int (c_X3_covered_ln lc mc bc N G k + 1)), (3, .ref (ad (150 + i_4))), (0, .ref (ad (0)))]) hx hb dX3_covered_40 hl (k := 2) rfl (nI_1 _) (by decide) rfl (fun ls hl => ?_)
        refine lv_goto (tgt := 4) hx hb dX3_covered_43 (by decide) ?_
        have hl : lv_has ls 4 [(2, .int (nI (k + 1))), (1, .int (c_X3_covered_ln lc mc bc N G (k + 1))), (0, .ref (ad (0)))] := by rw [show c_X3_covered_ln lc mc bc N G (k + 1) = c_X3_covered_ln lc mc bc N G k + 1 from (by rw [c_X3_covered_ln, ocase_s hq_3, if_neg c_5])]; exact lv_sub hl [0, 1, 3] rfl
        exact ih _ _ _ trivial hW hS hl
def c_X3_write (lc mc bc : Nat) (N G : Nat → Nat → Int32) (x : Int32) (y : Int32) (v : Int32) : String ⊕ Int32 := scase (c_X3_checkOwner x) (fun E_2 => .inl E_2) (fun _ => if v < 0 then (.inl "java/lang/IllegalArgumentException") else (if v ≤ 9999 then (scase (c_X3_checkedPlace y) (fun E_7 => .inl E_7) (fun x_8 => scase (c_X3_layerToWrite lc mc bc N G x_8) (fun E_10 => .inl E_10) (fun x_11 => if (((c_X3_usedBy lc mc bc N G x) - (c_X1_bytesOfOwnerAt lc mc bc N G x_11 x (c_X3_restAt lc mc bc N G x_8))) + v) ≤ (c_X3_quotaOf lc mc bc N G x) then (.inr (c_X3_usedBy lc mc bc (c_X3_putAt_N lc mc bc N G x_8 x_11 1 x v) (c_X3_putAt_G lc mc bc N G x_8 x_11 1 x v) x)) else (.inl "java/lang/UnsupportedOperationException")))) else (.inl "java/lang/IllegalArgumentException")))
def c_X3_write_G (lc mc bc : Nat) (N G : Nat → Nat → Int32) (x : Int32) (y : Int32) (v : Int32) : Nat → Nat → Int32 := scase (c_X3_checkOwner x) (fun E_2 => G) (fun _ => if v < 0 then G else (if v ≤ 9999 then (scase (c_X3_checkedPlace y) (fun E_7 => G) (fun x_8 => scase (c_X3_layerToWrite lc mc bc N G x_8) (fun E_10 => G) (fun x_11 => if (((c_X3_usedBy lc mc bc N G x) - (c_X1_bytesOfOwnerAt lc mc bc N G x_11 x (c_X3_restAt lc mc bc N G x_8))) + v) ≤ (c_X3_quotaOf lc mc bc N G x) then (c_X3_putAt_G lc mc bc N G x_8 x_11 1 x v) else G))) else G))
def c_X3_write_N (lc mc bc : Nat) (N G : Nat → Nat → Int32) (x : Int32) (y : Int32) (v : Int32) : Nat → Nat → Int32 := scase (c_X3_checkOwner x) (fun E_2 => N) (fun _ => if v < 0 then N else (if v ≤ 9999 then (scase (c_X3_checkedPlace y) (fun E_7 => N) (fun x_8 => scase (c_X3_layerToWrite lc mc bc N G x_8) (fun E_10 => N) (fun x_11 => if (((c_X3_usedBy lc mc bc N G x) - (c_X1_bytesOfOwnerAt lc mc bc N G x_11 x (c_X3_restAt lc mc bc N G x_8))) + v) ≤ (c_X3_quotaOf lc mc bc N G x) then (c_X3_putAt_N lc mc bc N G x_8 x_11 1 x v) else N))) else N))
set_option maxRecDepth 100000 in
set_option maxHeartbeats 4000000 in
theorem k_X3_write (l : Launch) (hlt : l.stackTraces = false) (g : mt_G) (z : Nat) (ad : Nat → Nat) (lc mc bc : Nat) (N G : Nat → Nat → Int32) (o : Nat → Int64) (d : mt_D) (h6 : lc ≤ 6) (h8 : mc ≤ 8) (hb6 : bc ≤ 6) (x : Int32) (y : Int32) (v : Int32)  : mt_K l g z yX3_write cX3_write 7 (some .int) 7 114 4 24 [.ref (ad (0)), .int x, .int y, .int v] (mt_wc g ad lc mc bc N G o d) ad (xr_i (c_X3_write lc mc bc N G x y v)) (mt_wc g ad lc mc bc (c_X3_write_N lc mc bc N G x y v) (c_X3_write_G lc mc bc N G x y v) o d) ad := by
  refine mt_ofW (by decide +kernel) (Nat.le_of_ble_eq_true rfl) ?_
  intro p e s m args below meth c S hr9 hk hnm hout hC hW hS ls hl
  have hr := hr9
  have hx := S.1
  have hb := S.2.1
  have hl : lv_has ls 7 [(0, .ref (ad (0))), (1, .int (x)), (2, .int (y)), (3, .int (v))] := hl
  refine lv_iload_n hx hb dX3_write_0 rfl (lv_at hl 1 rfl) ?_
  rcases hq_1 : (c_X3_checkOwner x) with E_2 | u_3
  · exact mt_cSt (As := [.int (x)]) (rest := []) S ps_X3_checkOwner mw_ml_X3_121 (k_X3_checkOwner l hlt g z ad lc mc bc N G o d h6 h8 hb6 x) hC hW hS rfl hl.1 rfl (Nat.le_of_ble_eq_true rfl) dX3_write_1 ⟨(Nat.le_of_ble_eq_true rfl), (Nat.le_of_ble_eq_true rfl)⟩ ⟨(Nat.le_of_ble_eq_true rfl), (Nat.le_of_ble_eq_true rfl)⟩ (congrArg (a₂ := .inl E_2) xr_u hq_1) hout hk (congrArg (a₂ := .inl E_2) xr_i (by rw [c_X3_write, scase_l hq_1])) (by rw [c_X3_write_N, scase_l hq_1, c_X3_write_G, scase_l hq_1]) rfl (Nat.le_of_ble_eq_true rfl) (Nat.le_of_ble_eq_true rfl)
  · refine mt_cSv (As := [.int (x)]) (rest := []) S ps_X3_checkOwner mw_ml_X3_121 (k_X3_checkOwner l hlt g z ad lc mc bc N G o d h6 h8 hb6 x) hC hW hS rfl hl.1 rfl (Nat.le_of_ble_eq_true rfl) dX3_write_1 ⟨(Nat.le_of_ble_eq_true rfl), (Nat.le_of_ble_eq_true rfl)⟩ ⟨(Nat.le_of_ble_eq_true rfl), (Nat.le_of_ble_eq_true rfl)⟩ (congrArg (a₂ := .inr ()) xr_u hq_1) (fun H locs hW hS => ?_)
    refine lv_iload_n hx hb dX3_write_4 rfl (lv_at hl 3 rfl) ?_
    refine lv_if_lt (tgt := 15) hx hb dX3_write_5 (by decide) (fun c_4 => ?_) (fun c_4 => ?_)
    · have hW := hW.to (w1 := mt_wc g ad lc mc bc (c_X3_write_N lc mc bc N G x y v) (c_X3_write_G lc mc bc N G x y v) o d) (by rw [c_X3_write_N, scase_r hq_1, if_pos c_4, c_X3_write_G, scase_r hq_1, if_pos c_4])
      exact mt_throw S hlt mp_IAE (List.mem_of_getElem? (i := 9) rfl) hC hW hS hl.1 hout hk (congrArg (a₂ := .inl "java/lang/IllegalArgumentException") xr_i (by rw [c_X3_write, scase_r hq_1, if_pos c_4])) dX3_write_15 dX3_write_18 dX3_write_19 dX3_write_21 dX3_write_24 (Nat.le_of_ble_eq_true rfl) (Nat.le_of_ble_eq_true rfl) ⟨(Nat.le_of_ble_eq_true rfl), (Nat.le_of_ble_eq_true rfl)⟩ (Nat.le_of_ble_eq_true rfl) (Nat.le_of_ble_eq_true rfl)
    · refine lv_iload_n hx hb dX3_write_8 rfl (lv_at hl 3 rfl) ?_
      refine lv_sipush (v := 9999) hx hb dX3_write_9 (by decide) ?_
      refine lv_icmp_le (tgt := 25) hx hb dX3_write_12 (by decide) (fun c_5 => ?_) (fun c_5 => ?_)
      · refine lv_iload_n hx hb dX3_write_25 rfl (lv_at hl 2 rfl) ?_
        rcases hq_6 : (c_X3_checkedPlace y) with E_7 | x_8
        · exact mt_cSt (As := [.int (y)]) (rest := []) S ps_X3_checkedPlace mw_ml_X3_104 (k_X3_checkedPlace l hlt g z ad lc mc bc N G o d h6 h8 hb6 y) hC hW hS rfl hl.1 rfl (Nat.le_of_ble_eq_true rfl) dX3_write_26 ⟨(Nat.le_of_ble_eq_true rfl), (Nat.le_of_ble_eq_true rfl)⟩ ⟨(Nat.le_of_ble_eq_true rfl), (Nat.le_of_ble_eq_true rfl)⟩ (congrArg (a₂ := .inl E_7) xr_i hq_6) hout hk (congrArg (a₂ := .inl E_7) xr_i (by rw [c_X3_write, scase_r hq_1, if_neg c_4, if_pos c_5, scase_l hq_6])) (by rw [c_X3_write_N, scase_r hq_1, if_neg c_4, if_pos c_5, scase_l hq_6, c_X3_write_G, scase_r hq_1, if_neg c_4, if_pos c_5, scase_l hq_6]) rfl (Nat.le_of_ble_eq_true rfl) (Nat.le_of_ble_eq_true rfl)
        · refine mt_cS1 (As := [.int (y)]) (rest := []) S ps_X3_checkedPlace mw_ml_X3_104 (k_X3_checkedPlace l hlt g z ad lc mc bc N G o d h6 h8 hb6 y) hC hW hS rfl hl.1 rfl (Nat.le_of_ble_eq_true rfl) dX3_write_26 ⟨(Nat.le_of_ble_eq_true rfl), (Nat.le_of_ble_eq_true rfl)⟩ ⟨(Nat.le_of_ble_eq_true rfl), (Nat.le_of_ble_eq_true rfl)⟩ (congrArg (a₂ := .inr x_8) xr_i hq_6) (fun H locs hW hS => ?_)
          refine lv_istore (lv' := [(4, .int (x_8)), (0, .ref (ad (0))), (1, .int (x)), (2, .int (y)), (3, .int (v))]) hx hb dX3_write_29 hl (by decide) rfl (fun ls hl => ?_)
          refine lv_aload_n hx hb dX3_write_31 rfl (lv_at hl 1 rfl) ?_
          refine lv_iload hx hb dX3_write_32 (lv_at hl 0 rfl) ?_
          rcases hq_9 : (c_X3_layerToWrite lc mc bc N G x_8) with E_10 | x_11
          · exact mt_cVt (As := [.int (x_8)]) (rest := []) S pv_X3_layerToWrite mw_ml_X3_127 (k_X3_layerToWrite l hlt g z ad lc mc bc N G o d h6 h8 hb6 x_8) hC hW hS wc_0 rfl rfl rfl hl.1 rfl (Nat.le_of_ble_eq_true rfl) dX3_write_34 ⟨(Nat.le_of_ble_eq_true rfl), (Nat.le_of_ble_eq_true rfl)⟩ ⟨(Nat.le_of_ble_eq_true rfl), (Nat.le_of_ble_eq_true rfl)⟩ (congrArg (a₂ := .inl E_10) (xr_n ad 100) hq_9) hout hk (congrArg (a₂ := .inl E_10) xr_i (by rw [c_X3_write, scase_r hq_1, if_neg c_4, if_pos c_5, scase_r hq_6, scase_l hq_9])) (by rw [c_X3_write_N, scase_r hq_1, if_neg c_4, if_pos c_5, scase_r hq_6, scase_l hq_9, c_X3_write_G, scase_r hq_1, if_neg c_4, if_pos c_5, scase_r hq_6, scase_l hq_9]) rfl (Nat.le_of_ble_eq_true rfl) (Nat.le_of_ble_eq_true rfl)
          · refine mt_cV1 (As := [.int (x_8)]) (rest := []) S pv_X3_layerToWrite mw_ml_X3_127 (k_X3_layerToWrite l hlt g z ad lc mc bc N G o d h6 h8 hb6 x_8) hC hW hS wc_0 rfl rfl rfl hl.1 rfl (Nat.le_of_ble_eq_true rfl) dX3_write_34 ⟨(Nat.le_of_ble_eq_true rfl), (Nat.le_of_ble_eq_true rfl)⟩ ⟨(Nat.le_of_ble_eq_true rfl), (Nat.le_of_ble_eq_true rfl)⟩ (congrArg (a₂ := .inr x_11) (xr_n ad 100) hq_9) (fun H locs hW hS => ?_)
            have hi_x_11 := c_layerToWrite_lt hq_9
            refine lv_astore (lv' := [(5, .ref (ad (100 + x_11))), (4, .int (x_8)), (0, .ref (ad (0))), (1, .int (x)), (2, .int (y)), (3, .int (v))]) hx hb dX3_write_37 hl (by decide) rfl (fun ls hl => ?_)
            refine lv_aload_n hx hb dX3_write_39 rfl (lv_at hl 2 rfl) ?_
            refine lv_iload_n hx hb dX3_write_40 rfl (lv_at hl 3 rfl) ?_
            refine mt_cV1 (As := [.int (x)]) (rest := []) S pv_X3_usedBy mw_ml_X3_130 (k_X3_usedBy l hlt g z ad lc mc bc N G o d h6 h8 hb6 x) hC hW hS wc_0 rfl rfl rfl hl.1 rfl (Nat.le_of_ble_eq_true rfl) dX3_write_41 ⟨(Nat.le_of_ble_eq_true rfl), (Nat.le_of_ble_eq_true rfl)⟩ ⟨(Nat.le_of_ble_eq_true rfl), (Nat.le_of_ble_eq_true rfl)⟩ rfl (fun H locs hW hS => ?_)
            refine lv_aload hx hb dX3_write_44 (lv_at hl 0 rfl) ?_
            refine lv_iload_n hx hb dX3_write_46 rfl (lv_at hl 3 rfl) ?_
            refine lv_aload_n hx hb dX3_write_47 rfl (lv_at hl 2 rfl) ?_
            refine lv_iload hx hb dX3_write_48 (lv_at hl 1 rfl) ?_
            refine mt_cV1 (As := [.int (x_8)]) (rest := [.int (x), .ref (ad (100 + x_11)), .int (c_X3_usedBy lc mc bc N G x)]) S pv_X3_restAt mw_ml_X3_133 (k_X3_restAt l hlt g z ad lc mc bc N G o d h6 h8 hb6 x_8) hC hW hS wc_0 rfl rfl rfl hl.1 rfl (Nat.le_of_ble_eq_true rfl) dX3_write_50 ⟨(Nat.le_of_ble_eq_true rfl), (Nat.le_of_ble_eq_true rfl)⟩ ⟨(Nat.le_of_ble_eq_true rfl), (Nat.le_of_ble_eq_true rfl)⟩ rfl (fun H locs hW hS => ?_)
            refine mt_cV1 (As := [.int (x), .int (c_X3_restAt lc mc bc N G x_8)]) (rest := [.int (c_X3_usedBy lc mc bc N G x)]) S pv_X1_bytesOfOwnerAt mw_ml_X3_136 (k_X1_bytesOfOwnerAt l hlt g z ad lc mc bc N G o d h6 h8 hb6 x_11 x (c_X3_restAt lc mc bc N G x_8) hi_x_11) hC hW hS (wc_lay h6 hi_x_11) rfl rfl rfl hl.1 rfl (Nat.le_of_ble_eq_true rfl) dX3_write_53 ⟨(Nat.le_of_ble_eq_true rfl), (Nat.le_of_ble_eq_true rfl)⟩ ⟨(Nat.le_of_ble_eq_true rfl), (Nat.le_of_ble_eq_true rfl)⟩ rfl (fun H locs hW hS => ?_)
            refine lv_isub hx hb dX3_write_56 ?_
            refine lv_iload_n hx hb dX3_write_57 rfl (lv_at hl 5 rfl) ?_
            refine lv_iadd hx hb dX3_write_58 ?_
            refine lv_istore (lv' := [(6, .int (((c_X3_usedBy lc mc bc N G x) - (c_X1_bytesOfOwnerAt lc mc bc N G x_11 x (c_X3_restAt lc mc bc N G x_8))) + v)), (5, .ref (ad (100 + x_11))), (4, .int (x_8)), (0, .ref (ad (0))), (1, .int (x)), (2, .int (y)), (3, .int (v))]) hx hb dX3_write_59 hl (by decide) rfl (fun ls hl => ?_)
            refine lv_iload hx hb dX3_write_61 (lv_at hl 0 rfl) ?_
            refine lv_aload_n hx hb dX3_write_63 rfl (lv_at hl 3 rfl) ?_
            refine lv_iload_n hx hb dX3_write_64 rfl (lv_at hl 4 rfl) ?_
            refine mt_cV1 (As := [.int (x)]) (rest := [.int (((c_X3_usedBy lc mc bc N G x) - (c_X1_bytesOfOwnerAt lc mc bc N G x_11 x (c_X3_restAt lc mc bc N G x_8))) + v)]) S pv_X3_quotaOf mw_ml_X3_140 (k_X3_quotaOf l hlt g z ad lc mc bc N G o d h6 h8 hb6 x) hC hW hS wc_0 rfl rfl rfl hl.1 rfl (Nat.le_of_ble_eq_true rfl) dX3_write_65 ⟨(Nat.le_of_ble_eq_true rfl), (Nat.le_of_ble_eq_true rfl)⟩ ⟨(Nat.le_of_ble_eq_true rfl), (Nat.le_of_ble_eq_true rfl)⟩ rfl (fun H locs hW hS => ?_)
            refine lv_icmp_le (tgt := 81) hx hb dX3_write_68 (by decide) (fun c_12 => ?_) (fun c_12 => ?_)
            · refine lv_aload_n hx hb dX3_write_81 rfl (lv_at hl 3 rfl) ?_
              refine lv_iload hx hb dX3_write_82 (lv_at hl 2 rfl) ?_
              refine lv_aload hx hb dX3_write_84 (lv_at hl 1 rfl) ?_
              refine lv_iconst (v := 1) hx hb dX3_write_86 (by decide) ?_
              refine lv_iload_n hx hb dX3_write_87 rfl (lv_at hl 4 rfl) ?_
              refine lv_iload_n hx hb dX3_write_88 rfl (lv_at hl 6 rfl) ?_
              refine mt_cVv (As := [.int (x_8), .ref (ad (100 + x_11)), .int (1), .int (x), .int (v)]) (rest := []) S pv_X3_putAt mw_ml_X3_145 (k_X3_putAt l hlt g z ad lc mc bc N G o d h6 h8 hb6 x_8 x_11 1 x v hi_x_11) hC hW hS wc_0 rfl rfl rfl hl.1 rfl (Nat.le_of_ble_eq_true rfl) dX3_write_89 ⟨(Nat.le_of_ble_eq_true rfl), (Nat.le_of_ble_eq_true rfl)⟩ ⟨(Nat.le_of_ble_eq_true rfl), (Nat.le_of_ble_eq_true rfl)⟩ rfl (fun H locs hW hS => ?_)
              refine lv_aload_n hx hb dX3_write_92 rfl (lv_at hl 3 rfl) ?_
              refine lv_iload_n hx hb dX3_write_93 rfl (lv_at hl 4 rfl) ?_
              refine mt_cV1 (As := [.int (x)]) (rest := []) S pv_X3_usedBy mw_ml_X3_130 (k_X3_usedBy l hlt g z ad lc mc bc (c_X3_putAt_N lc mc bc N G x_8 x_11 1 x v) (c_X3_putAt_G lc mc bc N G x_8 x_11 1 x v) o d h6 h8 hb6 x) hC hW hS wc_0 rfl rfl rfl hl.1 rfl (Nat.le_of_ble_eq_true rfl) dX3_write_94 ⟨(Nat.le_of_ble_eq_true rfl), (Nat.le_of_ble_eq_true rfl)⟩ ⟨(Nat.le_of_ble_eq_true rfl), (Nat.le_of_ble_eq_true rfl)⟩ rfl (fun H locs hW hS => ?_)
              have hW := hW.to (w1 := mt_wc g ad lc mc bc (c_X3_write_N lc mc bc N G x y v) (c_X3_write_G lc mc bc N G x y v) o d) (by rw [c_X3_write_N, scase_r hq_1, if_neg c_4, if_pos c_5, scase_r hq_6, scase_r hq_9, if_pos c_12, c_X3_write_G, scase_r hq_1, if_neg c_4, if_pos c_5, scase_r hq_6, scase_r hq_9, if_pos c_12])
              exact mt_ri S hr hk hW hS (congrArg (a₂ := .inr (c_X3_usedBy lc mc bc (c_X3_putAt_N lc mc bc N G x_8 x_11 1 x v) (c_X3_putAt_G lc mc bc N G x_8 x_11 1 x v) x)) xr_i (by rw [c_X3_write, scase_r hq_1, if_neg c_4, if_pos c_5, scase_r hq_6, scase_r hq_9, if_pos c_12])) (Nat.le_of_ble_eq_true rfl) (Nat.le_of_ble_eq_true rfl) dX3_write_97
            · have hW := hW.to (w1 := mt_wc g ad lc mc bc (c_X3_write_N lc mc bc N G x y v) (c_X3_write_G lc mc bc N G x y v) o d) (by rw [c_X3_write_N, scase_r hq_1, if_neg c_4, if_pos c_5, scase_r hq_6, scase_r hq_9, if_neg c_12, c_X3_write_G, scase_r hq_1, if_neg c_4, if_pos c_5, scase_r hq_6, scase_r hq_9, if_neg c_12])
              exact mt_throw S hlt mp_UOE (List.mem_of_getElem? (i := 11) rfl) hC hW hS hl.1 hout hk (congrArg (a₂ := .inl "java/lang/UnsupportedOperationException") xr_i (by rw [c_X3_write, scase_r hq_1, if_neg c_4, if_pos c_5, scase_r hq_6, scase_r hq_9, if_neg c_12])) dX3_write_71 dX3_write_74 dX3_write_75 dX3_write_77 dX3_write_80 (Nat.le_of_ble_eq_true rfl) (Nat.le_of_ble_eq_true rfl) ⟨(Nat.le_of_ble_eq_true rfl), (Nat.le_of_ble_eq_true rfl)⟩ (Nat.le_of_ble_eq_true rfl) (Nat.le_of_ble_eq_true rfl)
      · have hW := hW.to (w1 := mt_wc g ad lc mc bc (c_X3_write_N lc mc bc N G x y v) (c_X3_write_G lc mc bc N G x y v) o d) (by rw [c_X3_write_N, scase_r hq_1, if_neg c_4, if_neg c_5, c_X3_write_G, scase_r hq_1, if_neg c_4, if_neg c_5])
        exact mt_throw S hlt mp_IAE (List.mem_of_getElem? (i := 9) rfl) hC hW hS hl.1 hout hk (congrArg (a₂ := .inl "java/lang/IllegalArgumentException") xr_i (by rw [c_X3_write, scase_r hq_1, if_neg c_4, if_neg c_5])) dX3_write_15 dX3_write_18 dX3_write_19 dX3_write_21 dX3_write_24 (Nat.le_of_ble_eq_true rfl) (Nat.le_of_ble_eq_true rfl) ⟨(Nat.le_of_ble_eq_true rfl), (Nat.le_of_ble_eq_true rfl)⟩ (Nat.le_of_ble_eq_true rfl) (Nat.le_of_ble_eq_true rfl)
def c_X3_link_ln (lc mc bc : Nat) (N G : Nat → Nat → Int32) (x : Int32) (y : Int32) (v : Int32) : Nat → Int32
  | 0 => 0
  | k + 1 => ocase (c_X3_layerAt lc mc bc N G (nI k)) (c_X3_link_ln lc mc bc N G x y v k) (fun i_16 => (c_X3_link_ln lc mc bc N G x y v k) + (c_X1_countOf lc mc bc N G i_16 2))
def c_X3_link (lc mc bc : Nat) (N G : Nat → Nat → Int32) (x : Int32) (y : Int32) (v : Int32) : String ⊕ Int32 := scase (c_X3_checkOwner x) (fun E_2 => .inl E_2) (fun _ => scase (c_X3_checkedPlace y) (fun E_5 => .inl E_5) (fun x_6 => scase (c_X3_checkedPlace v) (fun E_8 => .inl E_8) (fun x_9 => scase (c_X3_layerToWrite lc mc bc N G x_6) (fun E_11 => .inl E_11) (fun x_12 => .inr (c_X3_link_ln lc mc bc (c_X3_putAt_N lc mc bc N G x_6 x_12 2 x v) (c_X3_putAt_G lc mc bc N G x_6 x_12 2 x v) x y v lc)))))
def c_X3_link_G (lc mc bc : Nat) (N G : Nat → Nat → Int32) (x : Int32) (y : Int32) (v : Int32) : Nat → Nat → Int32 := scase (c_X3_checkOwner x) (fun E_2 => G) (fun _ => scase (c_X3_checkedPlace y) (fun E_5 => G) (fun x_6 => scase (c_X3_checkedPlace v) (fun E_8 => G) (fun x_9 => scase (c_X3_layerToWrite lc mc bc N G x_6) (fun E_11 => G) (fun x_12 => c_X3_putAt_G lc mc bc N G x_6 x_12 2 x v))))
def c_X3_link_N (lc mc bc : Nat) (N G : Nat → Nat → Int32) (x : Int32) (y : Int32) (v : Int32) : Nat → Nat → Int32 := scase (c_X3_checkOwner x) (fun E_2 => N) (fun _ => scase (c_X3_checkedPlace y) (fun E_5 => N) (fun x_6 => scase (c_X3_checkedPlace v) (fun E_8 => N) (fun x_9 => scase (c_X3_layerToWrite lc mc bc N G x_6) (fun E_11 => N) (fun x_12 => c_X3_putAt_N lc mc bc N G x_6 x_12 2 x v))))
set_option maxRecDepth 100000 in
set_option maxHeartbeats 4000000 in
theorem k_X3_link (l : Launch) (hlt : l.stackTraces = false) (g : mt_G) (z : Nat) (ad : Nat → Nat) (lc mc bc : Nat) (N G : Nat → Nat → Int32) (o : Nat → Int64) (d : mt_D) (h6 : lc ≤ 6) (h8 : mc ≤ 8) (hb6 : bc ≤ 6) (x : Int32) (y : Int32) (v : Int32)  : mt_K l g z yX3_link cX3_link 8 (some .int) 7 114 4 24 [.ref (ad (0)), .int x, .int y, .int v] (mt_wc g ad lc mc bc N G o d) ad (xr_i (c_X3_link lc mc bc N G x y v)) (mt_wc g ad lc mc bc (c_X3_link_N lc mc bc N G x y v) (c_X3_link_G lc mc bc N G x y v) o d) ad := by
  refine mt_ofW (by decide +kernel) (Nat.le_of_ble_eq_true rfl) ?_
  intro p e s m args below meth c S hr9 hk hnm hout hC hW hS ls hl
  have hr := hr9
  have hx := S.1
  have hb := S.2.1
  have hl : lv_has ls 8 [(0, .ref (ad (0))), (1, .int (x)), (2, .int (y)), (3, .int (v))] := hl
  refine lv_iload_n hx hb dX3_link_0 rfl (lv_at hl 1 rfl) ?_
  rcases hq_1 : (c_X3_checkOwner x) with E_2 | u_3
  · exact mt_cSt (As := [.int (x)]) (rest := []) S ps_X3_checkOwner mw_ml_X3_121 (k_X3_checkOwner l hlt g z ad lc mc bc N G o d h6 h8 hb6 x) hC hW hS rfl hl.1 rfl (Nat.le_of_ble_eq_true rfl) dX3_link_1 ⟨(Nat.le_of_ble_eq_true rfl), (Nat.le_of_ble_eq_true rfl)⟩ ⟨(Nat.le_of_ble_eq_true rfl), (Nat.le_of_ble_eq_true rfl)⟩ (congrArg (a₂ := .inl E_2) xr_u hq_1) hout hk (congrArg (a₂ := .inl E_2) xr_i (by rw [c_X3_link, scase_l hq_1])) (by rw [c_X3_link_N, scase_l hq_1, c_X3_link_G, scase_l hq_1]) rfl (Nat.le_of_ble_eq_true rfl) (Nat.le_of_ble_eq_true rfl)
  · refine mt_cSv (As := [.int (x)]) (rest := []) S ps_X3_checkOwner mw_ml_X3_121 (k_X3_checkOwner l hlt g z ad lc mc bc N G o d h6 h8 hb6 x) hC hW hS rfl hl.1 rfl (Nat.le_of_ble_eq_true rfl) dX3_link_1 ⟨(Nat.le_of_ble_eq_true rfl), (Nat.le_of_ble_eq_true rfl)⟩ ⟨(Nat.le_of_ble_eq_true rfl), (Nat.le_of_ble_eq_true rfl)⟩ (congrArg (a₂ := .inr ()) xr_u hq_1) (fun H locs hW hS => ?_)
    refine lv_iload_n hx hb dX3_link_4 rfl (lv_at hl 2 rfl) ?_
    rcases hq_4 : (c_X3_checkedPlace y) with E_5 | x_6
    · exact mt_cSt (As := [.int (y)]) (rest := []) S ps_X3_checkedPlace mw_ml_X3_104 (k_X3_checkedPlace l hlt g z ad lc mc bc N G o d h6 h8 hb6 y) hC hW hS rfl hl.1 rfl (Nat.le_of_ble_eq_true rfl) dX3_link_5 ⟨(Nat.le_of_ble_eq_true rfl), (Nat.le_of_ble_eq_true rfl)⟩ ⟨(Nat.le_of_ble_eq_true rfl), (Nat.le_of_ble_eq_true rfl)⟩ (congrArg (a₂ := .inl E_5) xr_i hq_4) hout hk (congrArg (a₂ := .inl E_5) xr_i (by rw [c_X3_link, scase_r hq_1, scase_l hq_4])) (by rw [c_X3_link_N, scase_r hq_1, scase_l hq_4, c_X3_link_G, scase_r hq_1, scase_l hq_4]) rfl (Nat.le_of_ble_eq_true rfl) (Nat.le_of_ble_eq_true rfl)
    · refine mt_cS1 (As := [.int (y)]) (rest := []) S ps_X3_checkedPlace mw_ml_X3_104 (k_X3_checkedPlace l hlt g z ad lc mc bc N G o d h6 h8 hb6 y) hC hW hS rfl hl.1 rfl (Nat.le_of_ble_eq_true rfl) dX3_link_5 ⟨(Nat.le_of_ble_eq_true rfl), (Nat.le_of_ble_eq_true rfl)⟩ ⟨(Nat.le_of_ble_eq_true rfl), (Nat.le_of_ble_eq_true rfl)⟩ (congrArg (a₂ := .inr x_6) xr_i hq_4) (fun H locs hW hS => ?_)
      refine lv_istore (lv' := [(4, .int (x_6)), (0, .ref (ad (0))), (1, .int (x)), (2, .int (y)), (3, .int (v))]) hx hb dX3_link_8 hl (by decide) rfl (fun ls hl => ?_)
      refine lv_iload_n hx hb dX3_link_10 rfl (lv_at hl 4 rfl) ?_
      rcases hq_7 : (c_X3_checkedPlace v) with E_8 | x_9
      · exact mt_cSt (As := [.int (v)]) (rest := []) S ps_X3_checkedPlace mw_ml_X3_104 (k_X3_checkedPlace l hlt g z ad lc mc bc N G o d h6 h8 hb6 v) hC hW hS rfl hl.1 rfl (Nat.le_of_ble_eq_true rfl) dX3_link_11 ⟨(Nat.le_of_ble_eq_true rfl), (Nat.le_of_ble_eq_true rfl)⟩ ⟨(Nat.le_of_ble_eq_true rfl), (Nat.le_of_ble_eq_true rfl)⟩ (congrArg (a₂ := .inl E_8) xr_i hq_7) hout hk (congrArg (a₂ := .inl E_8) xr_i (by rw [c_X3_link, scase_r hq_1, scase_r hq_4, scase_l hq_7])) (by rw [c_X3_link_N, scase_r hq_1, scase_r hq_4, scase_l hq_7, c_X3_link_G, scase_r hq_1, scase_r hq_4, scase_l hq_7]) rfl (Nat.le_of_ble_eq_true rfl) (Nat.le_of_ble_eq_true rfl)
      · refine mt_cS1 (As := [.int (v)]) (rest := []) S ps_X3_checkedPlace mw_ml_X3_104 (k_X3_checkedPlace l hlt g z ad lc mc bc N G o d h6 h8 hb6 v) hC hW hS rfl hl.1 rfl (Nat.le_of_ble_eq_true rfl) dX3_link_11 ⟨(Nat.le_of_ble_eq_true rfl), (Nat.le_of_ble_eq_true rfl)⟩ ⟨(Nat.le_of_ble_eq_true rfl), (Nat.le_of_ble_eq_true rfl)⟩ (congrArg (a₂ := .inr x_9) xr_i hq_7) (fun H locs hW hS => ?_)
        refine lv_pop hx hb dX3_link_14 rfl ?_
        refine lv_aload_n hx hb dX3_link_15 rfl (lv_at hl 1 rfl) ?_
        refine lv_iload hx hb dX3_link_16 (lv_at hl 0 rfl) ?_
        refine lv_aload_n hx hb dX3_link_18 rfl (lv_at hl 1 rfl) ?_
        refine lv_iload hx hb dX3_link_19 (lv_at hl 0 rfl) ?_
        rcases hq_10 : (c_X3_layerToWrite lc mc bc N G x_6) with E_11 | x_12
        · exact mt_cVt (As := [.int (x_6)]) (rest := [.int (x_6), .ref (ad (0))]) S pv_X3_layerToWrite mw_ml_X3_127 (k_X3_layerToWrite l hlt g z ad lc mc bc N G o d h6 h8 hb6 x_6) hC hW hS wc_0 rfl rfl rfl hl.1 rfl (Nat.le_of_ble_eq_true rfl) dX3_link_21 ⟨(Nat.le_of_ble_eq_true rfl), (Nat.le_of_ble_eq_true rfl)⟩ ⟨(Nat.le_of_ble_eq_true rfl), (Nat.le_of_ble_eq_true rfl)⟩ (congrArg (a₂ := .inl E_11) (xr_n ad 100) hq_10) hout hk (congrArg (a₂ := .inl E_11) xr_i (by rw [c_X3_link, scase_r hq_1, scase_r hq_4, scase_r hq_7, scase_l hq_10])) (by rw [c_X3_link_N, scase_r hq_1, scase_r hq_4, scase_r hq_7, scase_l hq_10, c_X3_link_G, scase_r hq_1, scase_r hq_4, scase_r hq_7, scase_l hq_10]) rfl (Nat.le_of_ble_eq_true rfl) (Nat.le_of_ble_eq_true rfl)
        · refine mt_cV1 (As := [.int (x_6)]) (rest := [.int (x_6), .ref (ad (0))]) S pv_X3_layerToWrite mw_ml_X3_127 (k_X3_layerToWrite l hlt g z ad lc mc bc N G o d h6 h8 hb6 x_6) hC hW hS wc_0 rfl rfl rfl hl.1 rfl (Nat.le_of_ble_eq_true rfl) dX3_link_21 ⟨(Nat.le_of_ble_eq_true rfl), (Nat.le_of_ble_eq_true rfl)⟩ ⟨(Nat.le_of_ble_eq_true rfl), (Nat.le_of_ble_eq_true rfl)⟩ (congrArg (a₂ := .inr x_12) (xr_n ad 100) hq_10) (fun H locs hW hS => ?_)
          have hi_x_12 := c_layerToWrite_lt hq_10
          refine lv_iconst (v := 2) hx hb dX3_link_24 (by decide) ?_
          refine lv_iload_n hx hb dX3_link_25 rfl (lv_at hl 2 rfl) ?_
          refine lv_iload_n hx hb dX3_link_26 rfl (lv_at hl 4 rfl) ?_
          refine mt_cVv (As := [.int (x_6), .ref (ad (100 + x_12)), .int (2), .int (x), .int (v)]) (rest := []) S pv_X3_putAt mw_ml_X3_145 (k_X3_putAt l hlt g z ad lc mc bc N G o d h6 h8 hb6 x_6 x_12 2 x v hi_x_12) hC hW hS wc_0 rfl rfl rfl hl.1 rfl (Nat.le_of_ble_eq_true rfl) dX3_link_27 ⟨(Nat.le_of_ble_eq_true rfl), (Nat.le_of_ble_eq_true rfl)⟩ ⟨(Nat.le_of_ble_eq_true rfl), (Nat.le_of_ble_eq_true rfl)⟩ rfl (fun H locs hW hS => ?_)
          refine lv_iconst (v := 0) hx hb dX3_link_30 (by decide) ?_
          refine lv_istore (lv' := [(5, .int (0)), (4, .int (x_6)), (0, .ref (ad (0))), (1, .int (x)), (2, .int (y)), (3, .int (v))]) hx hb dX3_link_31 hl (by decide) rfl (fun ls hl => ?_)
          refine lv_iconst (v := 0) hx hb dX3_link_33 (by decide) ?_
          refine lv_istore (lv' := [(6, .int (0)), (5, .int (0)), (4, .int (x_6)), (0, .ref (ad (0))), (1, .int (x)), (2, .int (y)), (3, .int (v))]) hx hb dX3_link_34 hl (by decide) rfl (fun ls hl => ?_)
          have hl : lv_has ls 8 [(6, .int (nI 0)), (5, .int (c_X3_link_ln lc mc bc (c_X3_putAt_N lc mc bc N G x_6 x_12 2 x v) (c_X3_putAt_G lc mc bc N G x_6 x_12 2 x v) x y v 0)), (0, .ref (ad (0)))] := lv_sub hl [0, 1, 3] rfl
          refine lp_up lc (fun k => mt_wc g ad lc mc bc (c_X3_putAt_N lc mc bc N G x_6 x_12 2 x v) (c_X3_putAt_G lc mc bc N G x_6 x_12 2 x v) o d) (fun k => [(6, .int (nI k)), (5, .int (c_X3_link_ln lc mc bc (c_X3_putAt_N lc mc bc N G x_6 x_12 2 x v) (c_X3_putAt_G lc mc bc N G x_6 x_12 2 x v) x y v k)), (0, .ref (ad (0)))]) (fun _ => True) 0 (by omega) trivial hW hS hl (fun H locs ls hP hW hS hl => ?_) (fun k H locs ls hk0 hkn hP hW hS hl ih => ?_)
          · have hW : mt_W g z (mt_wc g ad lc mc bc (c_X3_putAt_N lc mc bc N G x_6 x_12 2 x v) (c_X3_putAt_G lc mc bc N G x_6 x_12 2 x v) o d) ad _ := hW
            have hl : lv_has ls 8 [(6, .int (nI lc)), (5, .int (c_X3_link_ln lc mc bc (c_X3_putAt_N lc mc bc N G x_6 x_12 2 x v) (c_X3_putAt_G lc mc bc N G x_6 x_12 2 x v) x y v lc)), (0, .ref (ad (0)))] := hl
            refine lv_iload hx hb dX3_link_36 (lv_at hl 0 rfl) ?_
            refine lv_aload_n hx hb dX3_link_38 rfl (lv_at hl 2 rfl) ?_
            refine mt_get S iw_X3 hC hW wc_0 rfl 7 (by decide) mw_fl_X3_40 rfl rfl dX3_link_39 ?_
            refine lv_icmp_ge (tgt := 75) hx hb dX3_link_42 (by decide) (fun c_13 => ?_) (fun c_13 => absurd (nI_le (a := lc) (b := lc) (Nat.le_refl _) (by omega)) c_13)
            refine lv_iload hx hb dX3_link_75 (lv_at hl 1 rfl) ?_
            have hW := hW.to (w1 := mt_wc g ad lc mc bc (c_X3_link_N lc mc bc N G x y v) (c_X3_link_G lc mc bc N G x y v) o d) (by rw [c_X3_link_N, scase_r hq_1, scase_r hq_4, scase_r hq_7, scase_r hq_10, c_X3_link_G, scase_r hq_1, scase_r hq_4, scase_r hq_7, scase_r hq_10])
            exact mt_ri S hr hk hW hS (congrArg (a₂ := .inr (c_X3_link_ln lc mc bc (c_X3_putAt_N lc mc bc N G x_6 x_12 2 x v) (c_X3_putAt_G lc mc bc N G x_6 x_12 2 x v) x y v lc)) xr_i (by rw [c_X3_link, scase_r hq_1, scase_r hq_4, scase_r hq_7, scase_r hq_10])) (Nat.le_of_ble_eq_true rfl) (Nat.le_of_ble_eq_true rfl) dX3_link_77
          · have hW : mt_W g z (mt_wc g ad lc mc bc (c_X3_putAt_N lc mc bc N G x_6 x_12 2 x v) (c_X3_putAt_G lc mc bc N G x_6 x_12 2 x v) o d) ad _ := hW
            have hl : lv_has ls 8 [(6, .int (nI k)), (5, .int (c_X3_link_ln lc mc bc (c_X3_putAt_N lc mc bc N G x_6 x_12 2 x v) (c_X3_putAt_G lc mc bc N G x_6 x_12 2 x v) x y v k)), (0, .ref (ad (0)))] := hl
            refine lv_iload hx hb dX3_link_36 (lv_at hl 0 rfl) ?_
            refine lv_aload_n hx hb dX3_link_38 rfl (lv_at hl 2 rfl) ?_
            refine mt_get S iw_X3 hC hW wc_0 rfl 7 (by decide) mw_fl_X3_40 rfl rfl dX3_link_39 ?_
            refine lv_icmp_ge (tgt := 75) hx hb dX3_link_42 (by decide) (fun c_14 => absurd c_14 (nI_ge (a := k) (b := lc) hkn (by omega))) (fun c_14 => ?_)
            refine lv_aload_n hx hb dX3_link_45 rfl (lv_at hl 2 rfl) ?_
            refine lv_iload hx hb dX3_link_46 (lv_at hl 0 rfl) ?_
            rcases hq_15 : (c_X3_layerAt lc mc bc (c_X3_putAt_N lc mc bc N G x_6 x_12 2 x v) (c_X3_putAt_G lc mc bc N G x_6 x_12 2 x v) (nI k)) with _ | i_16
            · refine mt_cV1 (v := .null) (As := [.int (nI k)]) (rest := []) S pv_X3_layerAt mw_ml_X3_61 (k_X3_layerAt l hlt g z ad lc mc bc (c_X3_putAt_N lc mc bc N G x_6 x_12 2 x v) (c_X3_putAt_G lc mc bc N G x_6 x_12 2 x v) o d h6 h8 hb6 (nI k)) hC hW hS wc_0 rfl rfl rfl hl.1 rfl (Nat.le_of_ble_eq_true rfl) dX3_link_48 ⟨(Nat.le_of_ble_eq_true rfl), (Nat.le_of_ble_eq_true rfl)⟩ ⟨(Nat.le_of_ble_eq_true rfl), (Nat.le_of_ble_eq_true rfl)⟩ (congrArg (a₂ := none) (xr_a ad 100) hq_15) (fun H locs hW hS => ?_)
              refine lv_astoreN (lv' := [(7, .null), (6, .int (nI k)), (5, .int (c_X3_link_ln lc mc bc (c_X3_putAt_N lc mc bc N G x_6 x_12 2 x v) (c_X3_putAt_G lc mc bc N G x_6 x_12 2 x v) x y v k)), (0, .ref (ad (0)))]) hx hb dX3_link_51 hl (by decide) rfl (fun ls hl => ?_)
              refine lv_aloadN hx hb dX3_link_53 (lv_at hl 0 rfl) ?_
              refine lv_ifnullN (tgt := 69) hx hb dX3_link_55 (by decide) ?_
              refine lv_iinc (v := nI (k + 1)) (lv' := [(6, .int (nI (k + 1))), (7, .null), (5, .int (c_X3_link_ln lc mc bc (c_X3_putAt_N lc mc bc N G x_6 x_12 2 x v) (c_X3_putAt_G lc mc bc N G x_6 x_12 2 x v) x y v k)), (0, .ref (ad (0)))]) hx hb dX3_link_69 hl (k := 1) rfl (nI_1 _) (by decide) rfl (fun ls hl => ?_)
              refine lv_goto (tgt := 36) hx hb dX3_link_72 (by decide) ?_
              have hl : lv_has ls 8 [(6, .int (nI (k + 1))), (5, .int (c_X3_link_ln lc mc bc (c_X3_putAt_N lc mc bc N G x_6 x_12 2 x v) (c_X3_putAt_G lc mc bc N G x_6 x_12 2 x v) x y v (k + 1))), (0, .ref (ad (0)))] := by rw [show c_X3_link_ln lc mc bc (c_X3_putAt_N lc mc bc N G x_6 x_12 2 x v) (c_X3_putAt_G lc mc bc N G x_6 x_12 2 x v) x y v (k + 1) = c_X3_link_ln lc mc bc (c_X3_putAt_N lc mc bc N G x_6 x_12 2 x v) (c_X3_putAt_G lc mc bc N G x_6 x_12 2 x v) x y v k from (by rw [c_X3_link_ln, ocase_n hq_15])]; exact lv_sub hl [0, 2, 3] rfl
              exact ih _ _ _ trivial hW hS hl
            · refine mt_cV1 (v := .ref (ad (100 + i_16))) (As := [.int (nI k)]) (rest := []) S pv_X3_layerAt mw_ml_X3_61 (k_X3_layerAt l hlt g z ad lc mc bc (c_X3_putAt_N lc mc bc N G x_6 x_12 2 x v) (c_X3_putAt_G lc mc bc N G x_6 x_12 2 x v) o d h6 h8 hb6 (nI k)) hC hW hS wc_0 rfl rfl rfl hl.1 rfl (Nat.le_of_ble_eq_true rfl) dX3_link_48 ⟨(Nat.le_of_ble_eq_true rfl), (Nat.le_of_ble_eq_true rfl)⟩ ⟨(Nat.le_of_ble_eq_true rfl), (Nat.le_of_ble_eq_true rfl)⟩ (congrArg (a₂ := some i_16) (xr_a ad 100) hq_15) (fun H locs hW hS => ?_)
              have hi_i_16 := c_layerAt_lt hq_15
              refine lv_astore (lv' := [(7, .ref (ad (100 + i_16))), (6, .int (nI k)), (5, .int (c_X3_link_ln lc mc bc (c_X3_putAt_N lc mc bc N G x_6 x_12 2 x v) (c_X3_putAt_G lc mc bc N G x_6 x_12 2 x v) x y v k)), (0, .ref (ad (0)))]) hx hb dX3_link_51 hl (by decide) rfl (fun ls hl => ?_)
              refine lv_aload hx hb dX3_link_53 (lv_at hl 0 rfl) ?_
              refine lv_ifnull hx hb dX3_link_55 ?_
              refine lv_iload hx hb dX3_link_58 (lv_at hl 2 rfl) ?_
              refine lv_aload hx hb dX3_link_60 (lv_at hl 0 rfl) ?_
              refine lv_iconst (v := 2) hx hb dX3_link_62 (by decide) ?_
              refine mt_cV1 (As := [.int (2)]) (rest := [.int (c_X3_link_ln lc mc bc (c_X3_putAt_N lc mc bc N G x_6 x_12 2 x v) (c_X3_putAt_G lc mc bc N G x_6 x_12 2 x v) x y v k)]) S pv_X1_countOf mw_ml_X3_149 (k_X1_countOf l hlt g z ad lc mc bc (c_X3_putAt_N lc mc bc N G x_6 x_12 2 x v) (c_X3_putAt_G lc mc bc N G x_6 x_12 2 x v) o d h6 h8 hb6 i_16 2 hi_i_16) hC hW hS (wc_lay h6 hi_i_16) rfl rfl rfl hl.1 rfl (Nat.le_of_ble_eq_true rfl) dX3_link_63 ⟨(Nat.le_of_ble_eq_true rfl), (Nat.le_of_ble_eq_true rfl)⟩ ⟨(Nat.le_of_ble_eq_true rfl), (Nat.le_of_ble_eq_true rfl)⟩ rfl (fun H locs hW hS => ?_)
              refine lv_iadd hx hb dX3_link_66 ?_
              refine lv_istore (lv' := [(5, .int ((c_X3_link_ln lc mc bc (c_X3_putAt_N lc mc bc N G x_6 x_12 2 x v) (c_X3_putAt_G lc mc bc N G x_6 x_12 2 x v) x y v k) + (c_X1_countOf lc mc bc (c_X3_putAt_N lc mc bc N G x_6 x_12 2 x v) (c_X3_putAt_G lc mc bc N G x_6 x_12 2 x v) i_16 2))), (7, .ref (ad (100 + i_16))), (6, .int (nI k)), (0, .ref (ad (0)))]) hx hb dX3_link_67 hl (by decide) rfl (fun ls hl => ?_)
              refine lv_iinc (v := nI (k + 1)) (lv' := [(6, .int (nI (k + 1))), (5, .int ((c_X3_link_ln lc mc bc (c_X3_putAt_N lc mc bc N G x_6 x_12 2 x v) (c_X3_putAt_G lc mc bc N G x_6 x_12 2 x v) x y v k) + (c_X1_countOf lc mc bc (c_X3_putAt_N lc mc bc N G x_6 x_12 2 x v) (c_X3_putAt_G lc mc bc N G x_6 x_12 2 x v) i_16 2))), (7, .ref (ad (100 + i_16))), (0, .ref (ad (0)))]) hx hb dX3_link_69 hl (k := 2) rfl (nI_1 _) (by decide) rfl (fun ls hl => ?_)
              refine lv_goto (tgt := 36) hx hb dX3_link_72 (by decide) ?_
              have hl : lv_has ls 8 [(6, .int (nI (k + 1))), (5, .int (c_X3_link_ln lc mc bc (c_X3_putAt_N lc mc bc N G x_6 x_12 2 x v) (c_X3_putAt_G lc mc bc N G x_6 x_12 2 x v) x y v (k + 1))), (0, .ref (ad (0)))] := by rw [show c_X3_link_ln lc mc bc (c_X3_putAt_N lc mc bc N G x_6 x_12 2 x v) (c_X3_putAt_G lc mc bc N G x_6 x_12 2 x v) x y v (k + 1) = (c_X3_link_ln lc mc bc (c_X3_putAt_N lc mc bc N G x_6 x_12 2 x v) (c_X3_putAt_G lc mc bc N G x_6 x_12 2 x v) x y v k) + (c_X1_countOf lc mc bc (c_X3_putAt_N lc mc bc N G x_6 x_12 2 x v) (c_X3_putAt_G lc mc bc N G x_6 x_12 2 x v) i_16 2) from (by rw [c_X3_link_ln, ocase_s hq_15])]; exact lv_sub hl [0, 1, 3] rfl
              exact ih _ _ _ trivial hW hS hl
theorem c_lk {x : Int32} (h1 : ¬ x = 1) (h2 : ¬ x = 2) : Op.lookupswitch.offset (#[(1, 25), (2, 28)] : Array (Int × Int)).toList 31 x.toInt = 31 := by
  have g1 : ¬ x.toInt = 1 := fun q => h1 (Int32.toInt_inj.mp q)
  have g2 : ¬ x.toInt = 2 := fun q => h2 (Int32.toInt_inj.mp q)
  simp only [Op.lookupswitch.offset, List.find?]
  simp [g1, g2, eq_comm]
def c_X3_shows (lc mc bc : Nat) (N G : Nat → Nat → Int32) (x : Int32) : String ⊕ Int32 := scase (c_X3_checkedPlace x) (fun E_2 => .inl E_2) (fun x_3 => if (c_X3_kindIn lc mc bc N G (c_X3_layerShown lc mc bc N G x_3) (c_X3_restAt lc mc bc N G x_3)) = 1 then (.inr 102) else (if (c_X3_kindIn lc mc bc N G (c_X3_layerShown lc mc bc N G x_3) (c_X3_restAt lc mc bc N G x_3)) = 2 then (.inr 108) else (.inr 45)))
set_option maxRecDepth 100000 in
set_option maxHeartbeats 4000000 in
theorem k_X3_shows (l : Launch) (hlt : l.stackTraces = false) (g : mt_G) (z : Nat) (ad : Nat → Nat) (lc mc bc : Nat) (N G : Nat → Nat → Int32) (o : Nat → Int64) (d : mt_D) (h6 : lc ≤ 6) (h8 : mc ≤ 8) (hb6 : bc ≤ 6) (x : Int32)  : mt_K l g z yX3_shows cX3_shows 3 (some .char) 7 103 1 6 [.ref (ad (0)), .int x] (mt_wc g ad lc mc bc N G o d) ad (xr_i (c_X3_shows lc mc bc N G x)) (mt_wc g ad lc mc bc N G o d) ad := by
  refine mt_ofW (by decide +kernel) (Nat.le_of_ble_eq_true rfl) ?_
  intro p e s m args below meth c S hr9 hk hnm hout hC hW hS ls hl
  have hr := hr9
  have hx := S.1
  have hb := S.2.1
  have hl : lv_has ls 3 [(0, .ref (ad (0))), (1, .int (x))] := hl
  refine lv_iload_n hx hb dX3_shows_0 rfl (lv_at hl 1 rfl) ?_
  rcases hq_1 : (c_X3_checkedPlace x) with E_2 | x_3
  · exact mt_cSt (As := [.int (x)]) (rest := []) S ps_X3_checkedPlace mw_ml_X3_104 (k_X3_checkedPlace l hlt g z ad lc mc bc N G o d h6 h8 hb6 x) hC hW hS rfl hl.1 rfl (Nat.le_of_ble_eq_true rfl) dX3_shows_1 ⟨(Nat.le_of_ble_eq_true rfl), (Nat.le_of_ble_eq_true rfl)⟩ ⟨(Nat.le_of_ble_eq_true rfl), (Nat.le_of_ble_eq_true rfl)⟩ (congrArg (a₂ := .inl E_2) xr_i hq_1) hout hk (congrArg (a₂ := .inl E_2) xr_i (by rw [c_X3_shows, scase_l hq_1])) rfl rfl (Nat.le_of_ble_eq_true rfl) (Nat.le_of_ble_eq_true rfl)
  · refine mt_cS1 (As := [.int (x)]) (rest := []) S ps_X3_checkedPlace mw_ml_X3_104 (k_X3_checkedPlace l hlt g z ad lc mc bc N G o d h6 h8 hb6 x) hC hW hS rfl hl.1 rfl (Nat.le_of_ble_eq_true rfl) dX3_shows_1 ⟨(Nat.le_of_ble_eq_true rfl), (Nat.le_of_ble_eq_true rfl)⟩ ⟨(Nat.le_of_ble_eq_true rfl), (Nat.le_of_ble_eq_true rfl)⟩ (congrArg (a₂ := .inr x_3) xr_i hq_1) (fun H locs hW hS => ?_)
    refine lv_istore_n (lv' := [(2, .int (x_3)), (0, .ref (ad (0))), (1, .int (x))]) hx hb dX3_shows_4 rfl hl (by decide) rfl (fun ls hl => ?_)
    refine lv_aload_n hx hb dX3_shows_5 rfl (lv_at hl 1 rfl) ?_
    refine lv_aload_n hx hb dX3_shows_6 rfl (lv_at hl 1 rfl) ?_
    refine lv_iload_n hx hb dX3_shows_7 rfl (lv_at hl 0 rfl) ?_
    refine mt_cV1 (As := [.int (x_3)]) (rest := [.ref (ad (0))]) S pv_X3_layerShown mw_ml_X3_178 (k_X3_layerShown l hlt g z ad lc mc bc N G o d h6 h8 hb6 x_3) hC hW hS wc_0 rfl rfl rfl hl.1 rfl (Nat.le_of_ble_eq_true rfl) dX3_shows_8 ⟨(Nat.le_of_ble_eq_true rfl), (Nat.le_of_ble_eq_true rfl)⟩ ⟨(Nat.le_of_ble_eq_true rfl), (Nat.le_of_ble_eq_true rfl)⟩ rfl (fun H locs hW hS => ?_)
    refine lv_aload_n hx hb dX3_shows_11 rfl (lv_at hl 1 rfl) ?_
    refine lv_iload_n hx hb dX3_shows_12 rfl (lv_at hl 0 rfl) ?_
    refine mt_cV1 (As := [.int (x_3)]) (rest := [.int (c_X3_layerShown lc mc bc N G x_3), .ref (ad (0))]) S pv_X3_restAt mw_ml_X3_133 (k_X3_restAt l hlt g z ad lc mc bc N G o d h6 h8 hb6 x_3) hC hW hS wc_0 rfl rfl rfl hl.1 rfl (Nat.le_of_ble_eq_true rfl) dX3_shows_13 ⟨(Nat.le_of_ble_eq_true rfl), (Nat.le_of_ble_eq_true rfl)⟩ ⟨(Nat.le_of_ble_eq_true rfl), (Nat.le_of_ble_eq_true rfl)⟩ rfl (fun H locs hW hS => ?_)
    refine mt_cV1 (As := [.int (c_X3_layerShown lc mc bc N G x_3), .int (c_X3_restAt lc mc bc N G x_3)]) (rest := []) S pv_X3_kindIn mw_ml_X3_164 (k_X3_kindIn l hlt g z ad lc mc bc N G o d h6 h8 hb6 (c_X3_layerShown lc mc bc N G x_3) (c_X3_restAt lc mc bc N G x_3)) hC hW hS wc_0 rfl rfl rfl hl.1 rfl (Nat.le_of_ble_eq_true rfl) dX3_shows_16 ⟨(Nat.le_of_ble_eq_true rfl), (Nat.le_of_ble_eq_true rfl)⟩ ⟨(Nat.le_of_ble_eq_true rfl), (Nat.le_of_ble_eq_true rfl)⟩ rfl (fun H locs hW hS => ?_)
    by_cases cs_4 : (c_X3_kindIn lc mc bc N G (c_X3_layerShown lc mc bc N G x_3) (c_X3_restAt lc mc bc N G x_3)) = 1
    · refine lv_lookup (off := 25) (tgt := 44) hx hb dX3_shows_19 (by decide) (by rw [cs_4]; decide) (by decide) ?_
      refine lv_bipush (v := 102) hx hb dX3_shows_44 (by decide) ?_
      exact mt_rz S hr hk rfl hW hS (congrArg (a₂ := .inr 102) xr_i (by rw [c_X3_shows, scase_r hq_1, if_pos cs_4])) (Nat.le_of_ble_eq_true rfl) (Nat.le_of_ble_eq_true rfl) dX3_shows_46
    · by_cases cs_5 : (c_X3_kindIn lc mc bc N G (c_X3_layerShown lc mc bc N G x_3) (c_X3_restAt lc mc bc N G x_3)) = 2
      · refine lv_lookup (off := 28) (tgt := 47) hx hb dX3_shows_19 (by decide) (by rw [cs_5]; decide) (by decide) ?_
        refine lv_bipush (v := 108) hx hb dX3_shows_47 (by decide) ?_
        exact mt_rz S hr hk rfl hW hS (congrArg (a₂ := .inr 108) xr_i (by rw [c_X3_shows, scase_r hq_1, if_neg cs_4, if_pos cs_5])) (Nat.le_of_ble_eq_true rfl) (Nat.le_of_ble_eq_true rfl) dX3_shows_49
      · refine lv_lookup (off := 31) (tgt := 50) hx hb dX3_shows_19 (by decide) (c_lk cs_4 cs_5) (by decide) ?_
        refine lv_bipush (v := 45) hx hb dX3_shows_50 (by decide) ?_
        exact mt_rz S hr hk rfl hW hS (congrArg (a₂ := .inr 45) xr_i (by rw [c_X3_shows, scase_r hq_1, if_neg cs_4, if_neg cs_5])) (Nat.le_of_ble_eq_true rfl) (Nat.le_of_ble_eq_true rfl) dX3_shows_52
def c_X3_remove (lc mc bc : Nat) (N G : Nat → Nat → Int32) (x : Int32) : String ⊕ Int32 := scase (c_X3_checkedPlace x) (fun E_2 => .inl E_2) (fun x_3 => scase (c_X3_checkedShown lc mc bc N G x_3) (fun E_5 => .inl E_5) (fun x_6 => ocase (c_X3_mountThere lc mc bc N G (c_X3_serverAt lc mc bc N G x_3)) (.inr (c_X1_bytesAt lc mc bc N G x_6 (c_X3_restAt lc mc bc N G x_3))) (fun i_8 => if (N (150 + i_8) 1) = (-1) then (ocase (c_X3_layerAt lc mc bc N G (c_X2_written lc mc bc N G i_8)) (.inr (c_X1_bytesAt lc mc bc N G x_6 (c_X3_restAt lc mc bc N G x_3))) (fun i_12 => .inr (c_X1_bytesAt lc mc bc N G x_6 (c_X3_restAt lc mc bc N G x_3)))) else (if (c_X3_isThing (c_X3_kindIn lc mc bc N G (N (150 + i_8) 0) (c_X3_restAt lc mc bc N G x_3))) = 0 then (ocase (c_X3_layerAt lc mc bc N G (c_X2_written lc mc bc N G i_8)) (.inr (c_X1_bytesAt lc mc bc N G x_6 (c_X3_restAt lc mc bc N G x_3))) (fun i_16 => .inr (c_X1_bytesAt lc mc bc N G x_6 (c_X3_restAt lc mc bc N G x_3)))) else (ocase (c_X3_layerAt lc mc bc N G (c_X2_written lc mc bc N G i_8)) (.inr (c_X1_bytesAt lc mc bc N G x_6 (c_X3_restAt lc mc bc N G x_3))) (fun i_19 => .inr (c_X1_bytesAt lc mc bc N G x_6 (c_X3_restAt lc mc bc N G x_3))))))))
def c_X3_remove_G (lc mc bc : Nat) (N G : Nat → Nat → Int32) (x : Int32) : Nat → Nat → Int32 := scase (c_X3_checkedPlace x) (fun E_2 => G) (fun x_3 => scase (c_X3_checkedShown lc mc bc N G x_3) (fun E_5 => G) (fun x_6 => ocase (c_X3_mountThere lc mc bc N G (c_X3_serverAt lc mc bc N G x_3)) G (fun i_8 => if (N (150 + i_8) 1) = (-1) then (ocase (c_X3_layerAt lc mc bc N G (c_X2_written lc mc bc N G i_8)) (c_X3_change_G lc mc bc N G none (c_X3_restAt lc mc bc N G x_3) 0 0 0) (fun i_12 => c_X3_change_G lc mc bc N G (some i_12) (c_X3_restAt lc mc bc N G x_3) 0 0 0)) else (if (c_X3_isThing (c_X3_kindIn lc mc bc N G (N (150 + i_8) 0) (c_X3_restAt lc mc bc N G x_3))) = 0 then (ocase (c_X3_layerAt lc mc bc N G (c_X2_written lc mc bc N G i_8)) (c_X3_change_G lc mc bc N G none (c_X3_restAt lc mc bc N G x_3) 0 0 0) (fun i_16 => c_X3_change_G lc mc bc N G (some i_16) (c_X3_restAt lc mc bc N G x_3) 0 0 0)) else (ocase (c_X3_layerAt lc mc bc N G (c_X2_written lc mc bc N G i_8)) (c_X3_change_G lc mc bc N G none (c_X3_restAt lc mc bc N G x_3) 3 0 0) (fun i_19 => c_X3_change_G lc mc bc N G (some i_19) (c_X3_restAt lc mc bc N G x_3) 3 0 0))))))
set_option maxRecDepth 100000 in
set_option maxHeartbeats 4000000 in
theorem k_X3_remove (l : Launch) (hlt : l.stackTraces = false) (g : mt_G) (z : Nat) (ad : Nat → Nat) (lc mc bc : Nat) (N G : Nat → Nat → Int32) (o : Nat → Int64) (d : mt_D) (h6 : lc ≤ 6) (h8 : mc ≤ 8) (hb6 : bc ≤ 6) (x : Int32)  : mt_K l g z yX3_remove cX3_remove 7 (some .int) 7 110 2 12 [.ref (ad (0)), .int x] (mt_wc g ad lc mc bc N G o d) ad (xr_i (c_X3_remove lc mc bc N G x)) (mt_wc g ad lc mc bc N (c_X3_remove_G lc mc bc N G x) o d) ad := by
  refine mt_ofW (by decide +kernel) (Nat.le_of_ble_eq_true rfl) ?_
  intro p e s m args below meth c S hr9 hk hnm hout hC hW hS ls hl
  have hr := hr9
  have hx := S.1
  have hb := S.2.1
  have hl : lv_has ls 7 [(0, .ref (ad (0))), (1, .int (x))] := hl
  refine lv_iload_n hx hb dX3_remove_0 rfl (lv_at hl 1 rfl) ?_
  rcases hq_1 : (c_X3_checkedPlace x) with E_2 | x_3
  · exact mt_cSt (As := [.int (x)]) (rest := []) S ps_X3_checkedPlace mw_ml_X3_104 (k_X3_checkedPlace l hlt g z ad lc mc bc N G o d h6 h8 hb6 x) hC hW hS rfl hl.1 rfl (Nat.le_of_ble_eq_true rfl) dX3_remove_1 ⟨(Nat.le_of_ble_eq_true rfl), (Nat.le_of_ble_eq_true rfl)⟩ ⟨(Nat.le_of_ble_eq_true rfl), (Nat.le_of_ble_eq_true rfl)⟩ (congrArg (a₂ := .inl E_2) xr_i hq_1) hout hk (congrArg (a₂ := .inl E_2) xr_i (by rw [c_X3_remove, scase_l hq_1])) (by rw [c_X3_remove_G, scase_l hq_1]) rfl (Nat.le_of_ble_eq_true rfl) (Nat.le_of_ble_eq_true rfl)
  · refine mt_cS1 (As := [.int (x)]) (rest := []) S ps_X3_checkedPlace mw_ml_X3_104 (k_X3_checkedPlace l hlt g z ad lc mc bc N G o d h6 h8 hb6 x) hC hW hS rfl hl.1 rfl (Nat.le_of_ble_eq_true rfl) dX3_remove_1 ⟨(Nat.le_of_ble_eq_true rfl), (Nat.le_of_ble_eq_true rfl)⟩ ⟨(Nat.le_of_ble_eq_true rfl), (Nat.le_of_ble_eq_true rfl)⟩ (congrArg (a₂ := .inr x_3) xr_i hq_1) (fun H locs hW hS => ?_)
    refine lv_istore_n (lv' := [(2, .int (x_3)), (0, .ref (ad (0))), (1, .int (x))]) hx hb dX3_remove_4 rfl hl (by decide) rfl (fun ls hl => ?_)
    refine lv_aload_n hx hb dX3_remove_5 rfl (lv_at hl 1 rfl) ?_
    refine lv_iload_n hx hb dX3_remove_6 rfl (lv_at hl 0 rfl) ?_
    rcases hq_4 : (c_X3_checkedShown lc mc bc N G x_3) with E_5 | x_6
    · exact mt_cVt (As := [.int (x_3)]) (rest := []) S pv_X3_checkedShown mw_ml_X3_152 (k_X3_checkedShown l hlt g z ad lc mc bc N G o d h6 h8 hb6 x_3) hC hW hS wc_0 rfl rfl rfl hl.1 rfl (Nat.le_of_ble_eq_true rfl) dX3_remove_7 ⟨(Nat.le_of_ble_eq_true rfl), (Nat.le_of_ble_eq_true rfl)⟩ ⟨(Nat.le_of_ble_eq_true rfl), (Nat.le_of_ble_eq_true rfl)⟩ (congrArg (a₂ := .inl E_5) (xr_n ad 100) hq_4) hout hk (congrArg (a₂ := .inl E_5) xr_i (by rw [c_X3_remove, scase_r hq_1, scase_l hq_4])) (by rw [c_X3_remove_G, scase_r hq_1, scase_l hq_4]) rfl (Nat.le_of_ble_eq_true rfl) (Nat.le_of_ble_eq_true rfl)
    · refine mt_cV1 (As := [.int (x_3)]) (rest := []) S pv_X3_checkedShown mw_ml_X3_152 (k_X3_checkedShown l hlt g z ad lc mc bc N G o d h6 h8 hb6 x_3) hC hW hS wc_0 rfl rfl rfl hl.1 rfl (Nat.le_of_ble_eq_true rfl) dX3_remove_7 ⟨(Nat.le_of_ble_eq_true rfl), (Nat.le_of_ble_eq_true rfl)⟩ ⟨(Nat.le_of_ble_eq_true rfl), (Nat.le_of_ble_eq_true rfl)⟩ (congrArg (a₂ := .inr x_6) (xr_n ad 100) hq_4) (fun H locs hW hS => ?_)
      have hi_x_6 := c_checkedShown_lt hq_4
      refine lv_aload_n hx hb dX3_remove_10 rfl (lv_at hl 1 rfl) ?_
      refine lv_iload_n hx hb dX3_remove_11 rfl (lv_at hl 0 rfl) ?_
      refine mt_cV1 (As := [.int (x_3)]) (rest := [.ref (ad (100 + x_6))]) S pv_X3_restAt mw_ml_X3_133 (k_X3_restAt l hlt g z ad lc mc bc N G o d h6 h8 hb6 x_3) hC hW hS wc_0 rfl rfl rfl hl.1 rfl (Nat.le_of_ble_eq_true rfl) dX3_remove_12 ⟨(Nat.le_of_ble_eq_true rfl), (Nat.le_of_ble_eq_true rfl)⟩ ⟨(Nat.le_of_ble_eq_true rfl), (Nat.le_of_ble_eq_true rfl)⟩ rfl (fun H locs hW hS => ?_)
      refine mt_cV1 (As := [.int (c_X3_restAt lc mc bc N G x_3)]) (rest := []) S pv_X1_bytesAt mw_ml_X3_155 (k_X1_bytesAt l hlt g z ad lc mc bc N G o d h6 h8 hb6 x_6 (c_X3_restAt lc mc bc N G x_3) hi_x_6) hC hW hS (wc_lay h6 hi_x_6) rfl rfl rfl hl.1 rfl (Nat.le_of_ble_eq_true rfl) dX3_remove_15 ⟨(Nat.le_of_ble_eq_true rfl), (Nat.le_of_ble_eq_true rfl)⟩ ⟨(Nat.le_of_ble_eq_true rfl), (Nat.le_of_ble_eq_true rfl)⟩ rfl (fun H locs hW hS => ?_)
      refine lv_istore_n (lv' := [(3, .int (c_X1_bytesAt lc mc bc N G x_6 (c_X3_restAt lc mc bc N G x_3))), (2, .int (x_3)), (0, .ref (ad (0))), (1, .int (x))]) hx hb dX3_remove_18 rfl hl (by decide) rfl (fun ls hl => ?_)
      refine lv_aload_n hx hb dX3_remove_19 rfl (lv_at hl 2 rfl) ?_
      refine lv_aload_n hx hb dX3_remove_20 rfl (lv_at hl 2 rfl) ?_
      refine lv_iload_n hx hb dX3_remove_21 rfl (lv_at hl 1 rfl) ?_
      refine mt_cV1 (As := [.int (x_3)]) (rest := [.ref (ad (0))]) S pv_X3_serverAt mw_ml_X3_113 (k_X3_serverAt l hlt g z ad lc mc bc N G o d h6 h8 hb6 x_3) hC hW hS wc_0 rfl rfl rfl hl.1 rfl (Nat.le_of_ble_eq_true rfl) dX3_remove_22 ⟨(Nat.le_of_ble_eq_true rfl), (Nat.le_of_ble_eq_true rfl)⟩ ⟨(Nat.le_of_ble_eq_true rfl), (Nat.le_of_ble_eq_true rfl)⟩ rfl (fun H locs hW hS => ?_)
      rcases hq_7 : (c_X3_mountThere lc mc bc N G (c_X3_serverAt lc mc bc N G x_3)) with _ | i_8
      · refine mt_cV1 (v := .null) (As := [.int (c_X3_serverAt lc mc bc N G x_3)]) (rest := []) S pv_X3_mountThere mw_ml_X3_101 (k_X3_mountThere l hlt g z ad lc mc bc N G o d h6 h8 hb6 (c_X3_serverAt lc mc bc N G x_3)) hC hW hS wc_0 rfl rfl rfl hl.1 rfl (Nat.le_of_ble_eq_true rfl) dX3_remove_25 ⟨(Nat.le_of_ble_eq_true rfl), (Nat.le_of_ble_eq_true rfl)⟩ ⟨(Nat.le_of_ble_eq_true rfl), (Nat.le_of_ble_eq_true rfl)⟩ (congrArg (a₂ := none) (xr_a ad 150) hq_7) (fun H locs hW hS => ?_)
        refine lv_astoreN (lv' := [(4, .null), (3, .int (c_X1_bytesAt lc mc bc N G x_6 (c_X3_restAt lc mc bc N G x_3))), (2, .int (x_3)), (0, .ref (ad (0))), (1, .int (x))]) hx hb dX3_remove_28 hl (by decide) rfl (fun ls hl => ?_)
        refine lv_aloadN hx hb dX3_remove_30 (lv_at hl 0 rfl) ?_
        refine lv_ifnullN (tgt := 105) hx hb dX3_remove_32 (by decide) ?_
        refine lv_iload_n hx hb dX3_remove_105 rfl (lv_at hl 1 rfl) ?_
        have hW := hW.to (w1 := mt_wc g ad lc mc bc N (c_X3_remove_G lc mc bc N G x) o d) (by rw [c_X3_remove_G, scase_r hq_1, scase_r hq_4, ocase_n hq_7])
        exact mt_ri S hr hk hW hS (congrArg (a₂ := .inr (c_X1_bytesAt lc mc bc N G x_6 (c_X3_restAt lc mc bc N G x_3))) xr_i (by rw [c_X3_remove, scase_r hq_1, scase_r hq_4, ocase_n hq_7])) (Nat.le_of_ble_eq_true rfl) (Nat.le_of_ble_eq_true rfl) dX3_remove_106
      · refine mt_cV1 (v := .ref (ad (150 + i_8))) (As := [.int (c_X3_serverAt lc mc bc N G x_3)]) (rest := []) S pv_X3_mountThere mw_ml_X3_101 (k_X3_mountThere l hlt g z ad lc mc bc N G o d h6 h8 hb6 (c_X3_serverAt lc mc bc N G x_3)) hC hW hS wc_0 rfl rfl rfl hl.1 rfl (Nat.le_of_ble_eq_true rfl) dX3_remove_25 ⟨(Nat.le_of_ble_eq_true rfl), (Nat.le_of_ble_eq_true rfl)⟩ ⟨(Nat.le_of_ble_eq_true rfl), (Nat.le_of_ble_eq_true rfl)⟩ (congrArg (a₂ := some i_8) (xr_a ad 150) hq_7) (fun H locs hW hS => ?_)
        have hi_i_8 := c_mountThere_lt hq_7
        refine lv_astore (lv' := [(4, .ref (ad (150 + i_8))), (3, .int (c_X1_bytesAt lc mc bc N G x_6 (c_X3_restAt lc mc bc N G x_3))), (2, .int (x_3)), (0, .ref (ad (0))), (1, .int (x))]) hx hb dX3_remove_28 hl (by decide) rfl (fun ls hl => ?_)
        refine lv_aload hx hb dX3_remove_30 (lv_at hl 0 rfl) ?_
        refine lv_ifnull hx hb dX3_remove_32 ?_
        refine lv_aload hx hb dX3_remove_35 (lv_at hl 0 rfl) ?_
        refine mt_getN S iw_X2 hC hW (wc_mnt h8 hi_i_8) rfl 1 (by decide) mw_fn_X3_158 rfl rfl dX3_remove_37 ?_
        refine lv_iconst (v := -1) hx hb dX3_remove_40 (by decide) ?_
        refine lv_icmp_eq (tgt := 68) hx hb dX3_remove_41 (by decide) (fun c_9 => ?_) (fun c_9 => ?_)
        · refine lv_iconst (v := 0) hx hb dX3_remove_68 (by decide) ?_
          refine lv_istore (lv' := [(5, .int (0)), (4, .ref (ad (150 + i_8))), (3, .int (c_X1_bytesAt lc mc bc N G x_6 (c_X3_restAt lc mc bc N G x_3))), (2, .int (x_3)), (0, .ref (ad (0))), (1, .int (x))]) hx hb dX3_remove_69 hl (by decide) rfl (fun ls hl => ?_)
          refine lv_iload hx hb dX3_remove_71 (lv_at hl 0 rfl) ?_
          refine lv_if_eq (tgt := 80) hx hb dX3_remove_73 (by decide) (fun c_10 => ?_) (fun c_10 => absurd (by decide) c_10)
          refine lv_iconst (v := 0) hx hb dX3_remove_80 (by decide) ?_
          refine lv_istore (lv' := [(6, .int (0)), (5, .int (0)), (4, .ref (ad (150 + i_8))), (3, .int (c_X1_bytesAt lc mc bc N G x_6 (c_X3_restAt lc mc bc N G x_3))), (2, .int (x_3)), (0, .ref (ad (0))), (1, .int (x))]) hx hb dX3_remove_81 hl (by decide) rfl (fun ls hl => ?_)
          refine lv_aload_n hx hb dX3_remove_83 rfl (lv_at hl 5 rfl) ?_
          refine lv_aload_n hx hb dX3_remove_84 rfl (lv_at hl 5 rfl) ?_
          refine lv_aload hx hb dX3_remove_85 (lv_at hl 2 rfl) ?_
          refine mt_cV1 (As := []) (rest := [.ref (ad (0)), .ref (ad (0))]) S pv_X2_written mw_ml_X3_170 (k_X2_written l hlt g z ad lc mc bc N G o d h6 h8 hb6 i_8 hi_i_8) hC hW hS (wc_mnt h8 hi_i_8) rfl rfl rfl hl.1 rfl (Nat.le_of_ble_eq_true rfl) dX3_remove_87 ⟨(Nat.le_of_ble_eq_true rfl), (Nat.le_of_ble_eq_true rfl)⟩ ⟨(Nat.le_of_ble_eq_true rfl), (Nat.le_of_ble_eq_true rfl)⟩ rfl (fun H locs hW hS => ?_)
          rcases hq_11 : (c_X3_layerAt lc mc bc N G (c_X2_written lc mc bc N G i_8)) with _ | i_12
          · refine mt_cV1 (v := .null) (As := [.int (c_X2_written lc mc bc N G i_8)]) (rest := [.ref (ad (0))]) S pv_X3_layerAt mw_ml_X3_61 (k_X3_layerAt l hlt g z ad lc mc bc N G o d h6 h8 hb6 (c_X2_written lc mc bc N G i_8)) hC hW hS wc_0 rfl rfl rfl hl.1 rfl (Nat.le_of_ble_eq_true rfl) dX3_remove_90 ⟨(Nat.le_of_ble_eq_true rfl), (Nat.le_of_ble_eq_true rfl)⟩ ⟨(Nat.le_of_ble_eq_true rfl), (Nat.le_of_ble_eq_true rfl)⟩ (congrArg (a₂ := none) (xr_a ad 100) hq_11) (fun H locs hW hS => ?_)
            refine lv_aload_n hx hb dX3_remove_93 rfl (lv_at hl 5 rfl) ?_
            refine lv_iload_n hx hb dX3_remove_94 rfl (lv_at hl 4 rfl) ?_
            refine mt_cV1 (As := [.int (x_3)]) (rest := [.null, .ref (ad (0))]) S pv_X3_restAt mw_ml_X3_133 (k_X3_restAt l hlt g z ad lc mc bc N G o d h6 h8 hb6 x_3) hC hW hS wc_0 rfl rfl rfl hl.1 rfl (Nat.le_of_ble_eq_true rfl) dX3_remove_95 ⟨(Nat.le_of_ble_eq_true rfl), (Nat.le_of_ble_eq_true rfl)⟩ ⟨(Nat.le_of_ble_eq_true rfl), (Nat.le_of_ble_eq_true rfl)⟩ rfl (fun H locs hW hS => ?_)
            refine lv_iload hx hb dX3_remove_98 (lv_at hl 0 rfl) ?_
            refine lv_iconst (v := 0) hx hb dX3_remove_100 (by decide) ?_
            refine lv_iconst (v := 0) hx hb dX3_remove_101 (by decide) ?_
            refine mt_cVv (As := [.null, .int (c_X3_restAt lc mc bc N G x_3), .int (0), .int (0), .int (0)]) (rest := []) S pv_X3_change mw_ml_X3_174 (k_X3_change l hlt g z ad lc mc bc N G o d h6 h8 hb6 none (c_X3_restAt lc mc bc N G x_3) 0 0 0 (fun i e => by cases e)) hC hW hS wc_0 rfl rfl rfl hl.1 rfl (Nat.le_of_ble_eq_true rfl) dX3_remove_102 ⟨(Nat.le_of_ble_eq_true rfl), (Nat.le_of_ble_eq_true rfl)⟩ ⟨(Nat.le_of_ble_eq_true rfl), (Nat.le_of_ble_eq_true rfl)⟩ rfl (fun H locs hW hS => ?_)
            refine lv_iload_n hx hb dX3_remove_105 rfl (lv_at hl 3 rfl) ?_
            have hW := hW.to (w1 := mt_wc g ad lc mc bc N (c_X3_remove_G lc mc bc N G x) o d) (by rw [c_X3_remove_G, scase_r hq_1, scase_r hq_4, ocase_s hq_7, if_pos c_9, ocase_n hq_11])
            exact mt_ri S hr hk hW hS (congrArg (a₂ := .inr (c_X1_bytesAt lc mc bc N G x_6 (c_X3_restAt lc mc bc N G x_3))) xr_i (by rw [c_X3_remove, scase_r hq_1, scase_r hq_4, ocase_s hq_7, if_pos c_9, ocase_n hq_11])) (Nat.le_of_ble_eq_true rfl) (Nat.le_of_ble_eq_true rfl) dX3_remove_106
          · refine mt_cV1 (v := .ref (ad (100 + i_12))) (As := [.int (c_X2_written lc mc bc N G i_8)]) (rest := [.ref (ad (0))]) S pv_X3_layerAt mw_ml_X3_61 (k_X3_layerAt l hlt g z ad lc mc bc N G o d h6 h8 hb6 (c_X2_written lc mc bc N G i_8)) hC hW hS wc_0 rfl rfl rfl hl.1 rfl (Nat.le_of_ble_eq_true rfl) dX3_remove_90 ⟨(Nat.le_of_ble_eq_true rfl), (Nat.le_of_ble_eq_true rfl)⟩ ⟨(Nat.le_of_ble_eq_true rfl), (Nat.le_of_ble_eq_true rfl)⟩ (congrArg (a₂ := some i_12) (xr_a ad 100) hq_11) (fun H locs hW hS => ?_)
            have hi_i_12 := c_layerAt_lt hq_11
            refine lv_aload_n hx hb dX3_remove_93 rfl (lv_at hl 5 rfl) ?_
            refine lv_iload_n hx hb dX3_remove_94 rfl (lv_at hl 4 rfl) ?_
            refine mt_cV1 (As := [.int (x_3)]) (rest := [.ref (ad (100 + i_12)), .ref (ad (0))]) S pv_X3_restAt mw_ml_X3_133 (k_X3_restAt l hlt g z ad lc mc bc N G o d h6 h8 hb6 x_3) hC hW hS wc_0 rfl rfl rfl hl.1 rfl (Nat.le_of_ble_eq_true rfl) dX3_remove_95 ⟨(Nat.le_of_ble_eq_true rfl), (Nat.le_of_ble_eq_true rfl)⟩ ⟨(Nat.le_of_ble_eq_true rfl), (Nat.le_of_ble_eq_true rfl)⟩ rfl (fun H locs hW hS => ?_)
            refine lv_iload hx hb dX3_remove_98 (lv_at hl 0 rfl) ?_
            refine lv_iconst (v := 0) hx hb dX3_remove_100 (by decide) ?_
            refine lv_iconst (v := 0) hx hb dX3_remove_101 (by decide) ?_
            refine mt_cVv (As := [.ref (ad (100 + i_12)), .int (c_X3_restAt lc mc bc N G x_3), .int (0), .int (0), .int (0)]) (rest := []) S pv_X3_change mw_ml_X3_174 (k_X3_change l hlt g z ad lc mc bc N G o d h6 h8 hb6 (some i_12) (c_X3_restAt lc mc bc N G x_3) 0 0 0 (fun i e => by cases e; exact hi_i_12)) hC hW hS wc_0 rfl rfl rfl hl.1 rfl (Nat.le_of_ble_eq_true rfl) dX3_remove_102 ⟨(Nat.le_of_ble_eq_true rfl), (Nat.le_of_ble_eq_true rfl)⟩ ⟨(Nat.le_of_ble_eq_true rfl), (Nat.le_of_ble_eq_true rfl)⟩ rfl (fun H locs hW hS => ?_)
            refine lv_iload_n hx hb dX3_remove_105 rfl (lv_at hl 3 rfl) ?_
            have hW := hW.to (w1 := mt_wc g ad lc mc bc N (c_X3_remove_G lc mc bc N G x) o d) (by rw [c_X3_remove_G, scase_r hq_1, scase_r hq_4, ocase_s hq_7, if_pos c_9, ocase_s hq_11])
            exact mt_ri S hr hk hW hS (congrArg (a₂ := .inr (c_X1_bytesAt lc mc bc N G x_6 (c_X3_restAt lc mc bc N G x_3))) xr_i (by rw [c_X3_remove, scase_r hq_1, scase_r hq_4, ocase_s hq_7, if_pos c_9, ocase_s hq_11])) (Nat.le_of_ble_eq_true rfl) (Nat.le_of_ble_eq_true rfl) dX3_remove_106
        · refine lv_aload_n hx hb dX3_remove_44 rfl (lv_at hl 3 rfl) ?_
          refine lv_aload hx hb dX3_remove_45 (lv_at hl 0 rfl) ?_
          refine mt_getN S iw_X2 hC hW (wc_mnt h8 hi_i_8) rfl 0 (by decide) mw_fn_X3_161 rfl rfl dX3_remove_47 ?_
          refine lv_aload_n hx hb dX3_remove_50 rfl (lv_at hl 3 rfl) ?_
          refine lv_iload_n hx hb dX3_remove_51 rfl (lv_at hl 2 rfl) ?_
          refine mt_cV1 (As := [.int (x_3)]) (rest := [.int (N (150 + i_8) 0), .ref (ad (0))]) S pv_X3_restAt mw_ml_X3_133 (k_X3_restAt l hlt g z ad lc mc bc N G o d h6 h8 hb6 x_3) hC hW hS wc_0 rfl rfl rfl hl.1 rfl (Nat.le_of_ble_eq_true rfl) dX3_remove_52 ⟨(Nat.le_of_ble_eq_true rfl), (Nat.le_of_ble_eq_true rfl)⟩ ⟨(Nat.le_of_ble_eq_true rfl), (Nat.le_of_ble_eq_true rfl)⟩ rfl (fun H locs hW hS => ?_)
          refine mt_cV1 (As := [.int (N (150 + i_8) 0), .int (c_X3_restAt lc mc bc N G x_3)]) (rest := []) S pv_X3_kindIn mw_ml_X3_164 (k_X3_kindIn l hlt g z ad lc mc bc N G o d h6 h8 hb6 (N (150 + i_8) 0) (c_X3_restAt lc mc bc N G x_3)) hC hW hS wc_0 rfl rfl rfl hl.1 rfl (Nat.le_of_ble_eq_true rfl) dX3_remove_55 ⟨(Nat.le_of_ble_eq_true rfl), (Nat.le_of_ble_eq_true rfl)⟩ ⟨(Nat.le_of_ble_eq_true rfl), (Nat.le_of_ble_eq_true rfl)⟩ rfl (fun H locs hW hS => ?_)
          refine mt_cS1 (As := [.int (c_X3_kindIn lc mc bc N G (N (150 + i_8) 0) (c_X3_restAt lc mc bc N G x_3))]) (rest := []) S ps_X3_isThing mw_ml_X3_167 (k_X3_isThing l hlt g z ad lc mc bc N G o d h6 h8 hb6 (c_X3_kindIn lc mc bc N G (N (150 + i_8) 0) (c_X3_restAt lc mc bc N G x_3))) hC hW hS rfl hl.1 rfl (Nat.le_of_ble_eq_true rfl) dX3_remove_58 ⟨(Nat.le_of_ble_eq_true rfl), (Nat.le_of_ble_eq_true rfl)⟩ ⟨(Nat.le_of_ble_eq_true rfl), (Nat.le_of_ble_eq_true rfl)⟩ rfl (fun H locs hW hS => ?_)
          refine lv_if_eq (tgt := 68) hx hb dX3_remove_61 (by decide) (fun c_13 => ?_) (fun c_13 => ?_)
          · refine lv_iconst (v := 0) hx hb dX3_remove_68 (by decide) ?_
            refine lv_istore (lv' := [(5, .int (0)), (4, .ref (ad (150 + i_8))), (3, .int (c_X1_bytesAt lc mc bc N G x_6 (c_X3_restAt lc mc bc N G x_3))), (2, .int (x_3)), (0, .ref (ad (0))), (1, .int (x))]) hx hb dX3_remove_69 hl (by decide) rfl (fun ls hl => ?_)
            refine lv_iload hx hb dX3_remove_71 (lv_at hl 0 rfl) ?_
            refine lv_if_eq (tgt := 80) hx hb dX3_remove_73 (by decide) (fun c_14 => ?_) (fun c_14 => absurd (by decide) c_14)
            refine lv_iconst (v := 0) hx hb dX3_remove_80 (by decide) ?_
            refine lv_istore (lv' := [(6, .int (0)), (5, .int (0)), (4, .ref (ad (150 + i_8))), (3, .int (c_X1_bytesAt lc mc bc N G x_6 (c_X3_restAt lc mc bc N G x_3))), (2, .int (x_3)), (0, .ref (ad (0))), (1, .int (x))]) hx hb dX3_remove_81 hl (by decide) rfl (fun ls hl => ?_)
            refine lv_aload_n hx hb dX3_remove_83 rfl (lv_at hl 5 rfl) ?_
            refine lv_aload_n hx hb dX3_remove_84 rfl (lv_at hl 5 rfl) ?_
            refine lv_aload hx hb dX3_remove_85 (lv_at hl 2 rfl) ?_
            refine mt_cV1 (As := []) (rest := [.ref (ad (0)), .ref (ad (0))]) S pv_X2_written mw_ml_X3_170 (k_X2_written l hlt g z ad lc mc bc N G o d h6 h8 hb6 i_8 hi_i_8) hC hW hS (wc_mnt h8 hi_i_8) rfl rfl rfl hl.1 rfl (Nat.le_of_ble_eq_true rfl) dX3_remove_87 ⟨(Nat.le_of_ble_eq_true rfl), (Nat.le_of_ble_eq_true rfl)⟩ ⟨(Nat.le_of_ble_eq_true rfl), (Nat.le_of_ble_eq_true rfl)⟩ rfl (fun H locs hW hS => ?_)
            rcases hq_15 : (c_X3_layerAt lc mc bc N G (c_X2_written lc mc bc N G i_8)) with _ | i_16
            · refine mt_cV1 (v := .null) (As := [.int (c_X2_written lc mc bc N G i_8)]) (rest := [.ref (ad (0))]) S pv_X3_layerAt mw_ml_X3_61 (k_X3_layerAt l hlt g z ad lc mc bc N G o d h6 h8 hb6 (c_X2_written lc mc bc N G i_8)) hC hW hS wc_0 rfl rfl rfl hl.1 rfl (Nat.le_of_ble_eq_true rfl) dX3_remove_90 ⟨(Nat.le_of_ble_eq_true rfl), (Nat.le_of_ble_eq_true rfl)⟩ ⟨(Nat.le_of_ble_eq_true rfl), (Nat.le_of_ble_eq_true rfl)⟩ (congrArg (a₂ := none) (xr_a ad 100) hq_15) (fun H locs hW hS => ?_)
              refine lv_aload_n hx hb dX3_remove_93 rfl (lv_at hl 5 rfl) ?_
              refine lv_iload_n hx hb dX3_remove_94 rfl (lv_at hl 4 rfl) ?_
              refine mt_cV1 (As := [.int (x_3)]) (rest := [.null, .ref (ad (0))]) S pv_X3_restAt mw_ml_X3_133 (k_X3_restAt l hlt g z ad lc mc bc N G o d h6 h8 hb6 x_3) hC hW hS wc_0 rfl rfl rfl hl.1 rfl (Nat.le_of_ble_eq_true rfl) dX3_remove_95 ⟨(Nat.le_of_ble_eq_true rfl), (Nat.le_of_ble_eq_true rfl)⟩ ⟨(Nat.le_of_ble_eq_true rfl), (Nat.le_of_ble_eq_true rfl)⟩ rfl (fun H locs hW hS => ?_)
              refine lv_iload hx hb dX3_remove_98 (lv_at hl 0 rfl) ?_
              refine lv_iconst (v := 0) hx hb dX3_remove_100 (by decide) ?_
              refine lv_iconst (v := 0) hx hb dX3_remove_101 (by decide) ?_
              refine mt_cVv (As := [.null, .int (c_X3_restAt lc mc bc N G x_3), .int (0), .int (0), .int (0)]) (rest := []) S pv_X3_change mw_ml_X3_174 (k_X3_change l hlt g z ad lc mc bc N G o d h6 h8 hb6 none (c_X3_restAt lc mc bc N G x_3) 0 0 0 (fun i e => by cases e)) hC hW hS wc_0 rfl rfl rfl hl.1 rfl (Nat.le_of_ble_eq_true rfl) dX3_remove_102 ⟨(Nat.le_of_ble_eq_true rfl), (Nat.le_of_ble_eq_true rfl)⟩ ⟨(Nat.le_of_ble_eq_true rfl), (Nat.le_of_ble_eq_true rfl)⟩ rfl (fun H locs hW hS => ?_)
              refine lv_iload_n hx hb dX3_remove_105 rfl (lv_at hl 3 rfl) ?_
              have hW := hW.to (w1 := mt_wc g ad lc mc bc N (c_X3_remove_G lc mc bc N G x) o d) (by rw [c_X3_remove_G, scase_r hq_1, scase_r hq_4, ocase_s hq_7, if_neg c_9, if_pos c_13, ocase_n hq_15])
              exact mt_ri S hr hk hW hS (congrArg (a₂ := .inr (c_X1_bytesAt lc mc bc N G x_6 (c_X3_restAt lc mc bc N G x_3))) xr_i (by rw [c_X3_remove, scase_r hq_1, scase_r hq_4, ocase_s hq_7, if_neg c_9, if_pos c_13, ocase_n hq_15])) (Nat.le_of_ble_eq_true rfl) (Nat.le_of_ble_eq_true rfl) dX3_remove_106
            · refine mt_cV1 (v := .ref (ad (100 + i_16))) (As := [.int (c_X2_written lc mc bc N G i_8)]) (rest := [.ref (ad (0))]) S pv_X3_layerAt mw_ml_X3_61 (k_X3_layerAt l hlt g z ad lc mc bc N G o d h6 h8 hb6 (c_X2_written lc mc bc N G i_8)) hC hW hS wc_0 rfl rfl rfl hl.1 rfl (Nat.le_of_ble_eq_true rfl) dX3_remove_90 ⟨(Nat.le_of_ble_eq_true rfl), (Nat.le_of_ble_eq_true rfl)⟩ ⟨(Nat.le_of_ble_eq_true rfl), (Nat.le_of_ble_eq_true rfl)⟩ (congrArg (a₂ := some i_16) (xr_a ad 100) hq_15) (fun H locs hW hS => ?_)
              have hi_i_16 := c_layerAt_lt hq_15
              refine lv_aload_n hx hb dX3_remove_93 rfl (lv_at hl 5 rfl) ?_
              refine lv_iload_n hx hb dX3_remove_94 rfl (lv_at hl 4 rfl) ?_
              refine mt_cV1 (As := [.int (x_3)]) (rest := [.ref (ad (100 + i_16)), .ref (ad (0))]) S pv_X3_restAt mw_ml_X3_133 (k_X3_restAt l hlt g z ad lc mc bc N G o d h6 h8 hb6 x_3) hC hW hS wc_0 rfl rfl rfl hl.1 rfl (Nat.le_of_ble_eq_true rfl) dX3_remove_95 ⟨(Nat.le_of_ble_eq_true rfl), (Nat.le_of_ble_eq_true rfl)⟩ ⟨(Nat.le_of_ble_eq_true rfl), (Nat.le_of_ble_eq_true rfl)⟩ rfl (fun H locs hW hS => ?_)
              refine lv_iload hx hb dX3_remove_98 (lv_at hl 0 rfl) ?_
              refine lv_iconst (v := 0) hx hb dX3_remove_100 (by decide) ?_
              refine lv_iconst (v := 0) hx hb dX3_remove_101 (by decide) ?_
              refine mt_cVv (As := [.ref (ad (100 + i_16)), .int (c_X3_restAt lc mc bc N G x_3), .int (0), .int (0), .int (0)]) (rest := []) S pv_X3_change mw_ml_X3_174 (k_X3_change l hlt g z ad lc mc bc N G o d h6 h8 hb6 (some i_16) (c_X3_restAt lc mc bc N G x_3) 0 0 0 (fun i e => by cases e; exact hi_i_16)) hC hW hS wc_0 rfl rfl rfl hl.1 rfl (Nat.le_of_ble_eq_true rfl) dX3_remove_102 ⟨(Nat.le_of_ble_eq_true rfl), (Nat.le_of_ble_eq_true rfl)⟩ ⟨(Nat.le_of_ble_eq_true rfl), (Nat.le_of_ble_eq_true rfl)⟩ rfl (fun H locs hW hS => ?_)
              refine lv_iload_n hx hb dX3_remove_105 rfl (lv_at hl 3 rfl) ?_
              have hW := hW.to (w1 := mt_wc g ad lc mc bc N (c_X3_remove_G lc mc bc N G x) o d) (by rw [c_X3_remove_G, scase_r hq_1, scase_r hq_4, ocase_s hq_7, if_neg c_9, if_pos c_13, ocase_s hq_15])
              exact mt_ri S hr hk hW hS (congrArg (a₂ := .inr (c_X1_bytesAt lc mc bc N G x_6 (c_X3_restAt lc mc bc N G x_3))) xr_i (by rw [c_X3_remove, scase_r hq_1, scase_r hq_4, ocase_s hq_7, if_neg c_9, if_pos c_13, ocase_s hq_15])) (Nat.le_of_ble_eq_true rfl) (Nat.le_of_ble_eq_true rfl) dX3_remove_106
          · refine lv_iconst (v := 1) hx hb dX3_remove_64 (by decide) ?_
            refine lv_goto (tgt := 69) hx hb dX3_remove_65 (by decide) ?_
            refine lv_istore (lv' := [(5, .int (1)), (4, .ref (ad (150 + i_8))), (3, .int (c_X1_bytesAt lc mc bc N G x_6 (c_X3_restAt lc mc bc N G x_3))), (2, .int (x_3)), (0, .ref (ad (0))), (1, .int (x))]) hx hb dX3_remove_69 hl (by decide) rfl (fun ls hl => ?_)
            refine lv_iload hx hb dX3_remove_71 (lv_at hl 0 rfl) ?_
            refine lv_if_eq (tgt := 80) hx hb dX3_remove_73 (by decide) (fun c_17 => absurd c_17 (by decide)) (fun c_17 => ?_)
            refine lv_iconst (v := 3) hx hb dX3_remove_76 (by decide) ?_
            refine lv_goto (tgt := 81) hx hb dX3_remove_77 (by decide) ?_
            refine lv_istore (lv' := [(6, .int (3)), (5, .int (1)), (4, .ref (ad (150 + i_8))), (3, .int (c_X1_bytesAt lc mc bc N G x_6 (c_X3_restAt lc mc bc N G x_3))), (2, .int (x_3)), (0, .ref (ad (0))), (1, .int (x))]) hx hb dX3_remove_81 hl (by decide) rfl (fun ls hl => ?_)
            refine lv_aload_n hx hb dX3_remove_83 rfl (lv_at hl 5 rfl) ?_
            refine lv_aload_n hx hb dX3_remove_84 rfl (lv_at hl 5 rfl) ?_
            refine lv_aload hx hb dX3_remove_85 (lv_at hl 2 rfl) ?_
            refine mt_cV1 (As := []) (rest := [.ref (ad (0)), .ref (ad (0))]) S pv_X2_written mw_ml_X3_170 (k_X2_written l hlt g z ad lc mc bc N G o d h6 h8 hb6 i_8 hi_i_8) hC hW hS (wc_mnt h8 hi_i_8) rfl rfl rfl hl.1 rfl (Nat.le_of_ble_eq_true rfl) dX3_remove_87 ⟨(Nat.le_of_ble_eq_true rfl), (Nat.le_of_ble_eq_true rfl)⟩ ⟨(Nat.le_of_ble_eq_true rfl), (Nat.le_of_ble_eq_true rfl)⟩ rfl (fun H locs hW hS => ?_)
            rcases hq_18 : (c_X3_layerAt lc mc bc N G (c_X2_written lc mc bc N G i_8)) with _ | i_19
            · refine mt_cV1 (v := .null) (As := [.int (c_X2_written lc mc bc N G i_8)]) (rest := [.ref (ad (0))]) S pv_X3_layerAt mw_ml_X3_61 (k_X3_layerAt l hlt g z ad lc mc bc N G o d h6 h8 hb6 (c_X2_written lc mc bc N G i_8)) hC hW hS wc_0 rfl rfl rfl hl.1 rfl (Nat.le_of_ble_eq_true rfl) dX3_remove_90 ⟨(Nat.le_of_ble_eq_true rfl), (Nat.le_of_ble_eq_true rfl)⟩ ⟨(Nat.le_of_ble_eq_true rfl), (Nat.le_of_ble_eq_true rfl)⟩ (congrArg (a₂ := none) (xr_a ad 100) hq_18) (fun H locs hW hS => ?_)
              refine lv_aload_n hx hb dX3_remove_93 rfl (lv_at hl 5 rfl) ?_
              refine lv_iload_n hx hb dX3_remove_94 rfl (lv_at hl 4 rfl) ?_
              refine mt_cV1 (As := [.int (x_3)]) (rest := [.null, .ref (ad (0))]) S pv_X3_restAt mw_ml_X3_133 (k_X3_restAt l hlt g z ad lc mc bc N G o d h6 h8 hb6 x_3) hC hW hS wc_0 rfl rfl rfl hl.1 rfl (Nat.le_of_ble_eq_true rfl) dX3_remove_95 ⟨(Nat.le_of_ble_eq_true rfl), (Nat.le_of_ble_eq_true rfl)⟩ ⟨(Nat.le_of_ble_eq_true rfl), (Nat.le_of_ble_eq_true rfl)⟩ rfl (fun H locs hW hS => ?_)
              refine lv_iload hx hb dX3_remove_98 (lv_at hl 0 rfl) ?_
              refine lv_iconst (v := 0) hx hb dX3_remove_100 (by decide) ?_
              refine lv_iconst (v := 0) hx hb dX3_remove_101 (by decide) ?_
              refine mt_cVv (As := [.null, .int (c_X3_restAt lc mc bc N G x_3), .int (3), .int (0), .int (0)]) (rest := []) S pv_X3_change mw_ml_X3_174 (k_X3_change l hlt g z ad lc mc bc N G o d h6 h8 hb6 none (c_X3_restAt lc mc bc N G x_3) 3 0 0 (fun i e => by cases e)) hC hW hS wc_0 rfl rfl rfl hl.1 rfl (Nat.le_of_ble_eq_true rfl) dX3_remove_102 ⟨(Nat.le_of_ble_eq_true rfl), (Nat.le_of_ble_eq_true rfl)⟩ ⟨(Nat.le_of_ble_eq_true rfl), (Nat.le_of_ble_eq_true rfl)⟩ rfl (fun H locs hW hS => ?_)
              refine lv_iload_n hx hb dX3_remove_105 rfl (lv_at hl 3 rfl) ?_
              have hW := hW.to (w1 := mt_wc g ad lc mc bc N (c_X3_remove_G lc mc bc N G x) o d) (by rw [c_X3_remove_G, scase_r hq_1, scase_r hq_4, ocase_s hq_7, if_neg c_9, if_neg c_13, ocase_n hq_18])
              exact mt_ri S hr hk hW hS (congrArg (a₂ := .inr (c_X1_bytesAt lc mc bc N G x_6 (c_X3_restAt lc mc bc N G x_3))) xr_i (by rw [c_X3_remove, scase_r hq_1, scase_r hq_4, ocase_s hq_7, if_neg c_9, if_neg c_13, ocase_n hq_18])) (Nat.le_of_ble_eq_true rfl) (Nat.le_of_ble_eq_true rfl) dX3_remove_106
            · refine mt_cV1 (v := .ref (ad (100 + i_19))) (As := [.int (c_X2_written lc mc bc N G i_8)]) (rest := [.ref (ad (0))]) S pv_X3_layerAt mw_ml_X3_61 (k_X3_layerAt l hlt g z ad lc mc bc N G o d h6 h8 hb6 (c_X2_written lc mc bc N G i_8)) hC hW hS wc_0 rfl rfl rfl hl.1 rfl (Nat.le_of_ble_eq_true rfl) dX3_remove_90 ⟨(Nat.le_of_ble_eq_true rfl), (Nat.le_of_ble_eq_true rfl)⟩ ⟨(Nat.le_of_ble_eq_true rfl), (Nat.le_of_ble_eq_true rfl)⟩ (congrArg (a₂ := some i_19) (xr_a ad 100) hq_18) (fun H locs hW hS => ?_)
              have hi_i_19 := c_layerAt_lt hq_18
              refine lv_aload_n hx hb dX3_remove_93 rfl (lv_at hl 5 rfl) ?_
              refine lv_iload_n hx hb dX3_remove_94 rfl (lv_at hl 4 rfl) ?_
              refine mt_cV1 (As := [.int (x_3)]) (rest := [.ref (ad (100 + i_19)), .ref (ad (0))]) S pv_X3_restAt mw_ml_X3_133 (k_X3_restAt l hlt g z ad lc mc bc N G o d h6 h8 hb6 x_3) hC hW hS wc_0 rfl rfl rfl hl.1 rfl (Nat.le_of_ble_eq_true rfl) dX3_remove_95 ⟨(Nat.le_of_ble_eq_true rfl), (Nat.le_of_ble_eq_true rfl)⟩ ⟨(Nat.le_of_ble_eq_true rfl), (Nat.le_of_ble_eq_true rfl)⟩ rfl (fun H locs hW hS => ?_)
              refine lv_iload hx hb dX3_remove_98 (lv_at hl 0 rfl) ?_
              refine lv_iconst (v := 0) hx hb dX3_remove_100 (by decide) ?_
              refine lv_iconst (v := 0) hx hb dX3_remove_101 (by decide) ?_
              refine mt_cVv (As := [.ref (ad (100 + i_19)), .int (c_X3_restAt lc mc bc N G x_3), .int (3), .int (0), .int (0)]) (rest := []) S pv_X3_change mw_ml_X3_174 (k_X3_change l hlt g z ad lc mc bc N G o d h6 h8 hb6 (some i_19) (c_X3_restAt lc mc bc N G x_3) 3 0 0 (fun i e => by cases e; exact hi_i_19)) hC hW hS wc_0 rfl rfl rfl hl.1 rfl (Nat.le_of_ble_eq_true rfl) dX3_remove_102 ⟨(Nat.le_of_ble_eq_true rfl), (Nat.le_of_ble_eq_true rfl)⟩ ⟨(Nat.le_of_ble_eq_true rfl), (Nat.le_of_ble_eq_true rfl)⟩ rfl (fun H locs hW hS => ?_)
              refine lv_iload_n hx hb dX3_remove_105 rfl (lv_at hl 3 rfl) ?_
              have hW := hW.to (w1 := mt_wc g ad lc mc bc N (c_X3_remove_G lc mc bc N G x) o d) (by rw [c_X3_remove_G, scase_r hq_1, scase_r hq_4, ocase_s hq_7, if_neg c_9, if_neg c_13, ocase_s hq_18])
              exact mt_ri S hr hk hW hS (congrArg (a₂ := .inr (c_X1_bytesAt lc mc bc N G x_6 (c_X3_restAt lc mc bc N G x_3))) xr_i (by rw [c_X3_remove, scase_r hq_1, scase_r hq_4, ocase_s hq_7, if_neg c_9, if_neg c_13, ocase_s hq_18])) (Nat.le_of_ble_eq_true rfl) (Nat.le_of_ble_eq_true rfl) dX3_remove_106

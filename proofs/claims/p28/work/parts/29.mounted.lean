def c_X3_unmount_ln (lc mc bc : Nat) (N G : Nat → Nat → Int32) (x : Int32) : Nat → Int32
  | 0 => 0
  | k + 1 => ocase (c_X3_mountThere lc mc bc N G (nI k)) (c_X3_unmount_ln lc mc bc N G x k) (fun i_7 => c_X3_unmount_ln lc mc bc N G x k + 1)
def c_X3_unmount (lc mc bc : Nat) (N G : Nat → Nat → Int32) (x : Int32) : String ⊕ Int32 := scase (c_X3_checkedMount lc mc bc N G x) (fun E_2 => .inl E_2) (fun x_3 => .inr (c_X3_unmount_ln lc mc bc (mt_gu N (150 + x_3) 3 0) (c_X3_serveAgain_G lc mc bc (mt_gu N (150 + x_3) 3 0) G) x mc))
def c_X3_unmount_G (lc mc bc : Nat) (N G : Nat → Nat → Int32) (x : Int32) : Nat → Nat → Int32 := scase (c_X3_checkedMount lc mc bc N G x) (fun E_2 => G) (fun x_3 => c_X3_serveAgain_G lc mc bc (mt_gu N (150 + x_3) 3 0) G)
def c_X3_unmount_N (lc mc bc : Nat) (N G : Nat → Nat → Int32) (x : Int32) : Nat → Nat → Int32 := scase (c_X3_checkedMount lc mc bc N G x) (fun E_2 => N) (fun x_3 => mt_gu N (150 + x_3) 3 0)
set_option maxRecDepth 100000 in
set_option maxHeartbeats 4000000 in
theorem k_X3_unmount (l : Launch) (hlt : l.stackTraces = false) (g : mt_G) (z : Nat) (ad : Nat → Nat) (lc mc bc : Nat) (N G : Nat → Nat → Int32) (o : Nat → Int64) (d : mt_D) (h6 : lc ≤ 6) (h8 : mc ≤ 8) (hb6 : bc ≤ 6) (x : Int32)  : mt_K l g z yX3_unmount cX3_unmount 4 (some .int) 7 104 1 6 [.ref (ad (0)), .int x] (mt_wc g ad lc mc bc N G o d) ad (xr_i (c_X3_unmount lc mc bc N G x)) (mt_wc g ad lc mc bc (c_X3_unmount_N lc mc bc N G x) (c_X3_unmount_G lc mc bc N G x) o d) ad := by
  refine mt_ofW (by decide +kernel) (Nat.le_of_ble_eq_true rfl) ?_
  intro p e s m args below meth c S hr9 hk hnm hout hC hW hS ls hl
  have hr := hr9
  have hx := S.1
  have hb := S.2.1
  have hl : lv_has ls 4 [(0, .ref (ad (0))), (1, .int (x))] := hl
  refine lv_aload_n hx hb dX3_unmount_0 rfl (lv_at hl 0 rfl) ?_
  refine lv_iload_n hx hb dX3_unmount_1 rfl (lv_at hl 1 rfl) ?_
  rcases hq_1 : (c_X3_checkedMount lc mc bc N G x) with E_2 | x_3
  · exact mt_cVt (As := [.int (x)]) (rest := []) S pv_X3_checkedMount mw_ml_X3_93 (k_X3_checkedMount l hlt g z ad lc mc bc N G o d h6 h8 hb6 x) hC hW hS wc_0 rfl rfl rfl hl.1 rfl (Nat.le_of_ble_eq_true rfl) dX3_unmount_2 ⟨(Nat.le_of_ble_eq_true rfl), (Nat.le_of_ble_eq_true rfl)⟩ ⟨(Nat.le_of_ble_eq_true rfl), (Nat.le_of_ble_eq_true rfl)⟩ (congrArg (a₂ := .inl E_2) (xr_n ad 150) hq_1) hout hk (congrArg (a₂ := .inl E_2) xr_i (by rw [c_X3_unmount, scase_l hq_1])) (by rw [c_X3_unmount_N, scase_l hq_1, c_X3_unmount_G, scase_l hq_1]) rfl (Nat.le_of_ble_eq_true rfl) (Nat.le_of_ble_eq_true rfl)
  · refine mt_cV1 (As := [.int (x)]) (rest := []) S pv_X3_checkedMount mw_ml_X3_93 (k_X3_checkedMount l hlt g z ad lc mc bc N G o d h6 h8 hb6 x) hC hW hS wc_0 rfl rfl rfl hl.1 rfl (Nat.le_of_ble_eq_true rfl) dX3_unmount_2 ⟨(Nat.le_of_ble_eq_true rfl), (Nat.le_of_ble_eq_true rfl)⟩ ⟨(Nat.le_of_ble_eq_true rfl), (Nat.le_of_ble_eq_true rfl)⟩ (congrArg (a₂ := .inr x_3) (xr_n ad 150) hq_1) (fun H locs hW hS => ?_)
    have hi_x_3 := c_checkedMount_lt hq_1
    refine lv_iconst (v := 0) hx hb dX3_unmount_5 (by decide) ?_
    refine mt_putN S iw_X2 tyX2 tyX2_ok nmX2 hC hW hS (wc_mnt h8 hi_x_3) rfl 3 (by decide) mw_fn_X3_97 rfl rfl rfl rfl (Nat.le_of_ble_eq_true rfl) dX3_unmount_6 (fun H locs hW hS => ?_)
    have hW := hW.to (wc_setm h8 hi_x_3 (by decide))
    refine lv_aload_n hx hb dX3_unmount_9 rfl (lv_at hl 0 rfl) ?_
    refine mt_cVv (As := []) (rest := []) S pv_X3_serveAgain mw_ml_X3_90 (k_X3_serveAgain l hlt g z ad lc mc bc (mt_gu N (150 + x_3) 3 0) G o d h6 h8 hb6 ) hC hW hS wc_0 rfl rfl rfl hl.1 rfl (Nat.le_of_ble_eq_true rfl) dX3_unmount_10 ⟨(Nat.le_of_ble_eq_true rfl), (Nat.le_of_ble_eq_true rfl)⟩ ⟨(Nat.le_of_ble_eq_true rfl), (Nat.le_of_ble_eq_true rfl)⟩ rfl (fun H locs hW hS => ?_)
    refine lv_iconst (v := 0) hx hb dX3_unmount_13 (by decide) ?_
    refine lv_istore_n (lv' := [(2, .int (0)), (0, .ref (ad (0))), (1, .int (x))]) hx hb dX3_unmount_14 rfl hl (by decide) rfl (fun ls hl => ?_)
    refine lv_iconst (v := 0) hx hb dX3_unmount_15 (by decide) ?_
    refine lv_istore_n (lv' := [(3, .int (0)), (2, .int (0)), (0, .ref (ad (0))), (1, .int (x))]) hx hb dX3_unmount_16 rfl hl (by decide) rfl (fun ls hl => ?_)
    have hl : lv_has ls 4 [(3, .int (nI 0)), (2, .int (c_X3_unmount_ln lc mc bc (mt_gu N (150 + x_3) 3 0) (c_X3_serveAgain_G lc mc bc (mt_gu N (150 + x_3) 3 0) G) x 0)), (0, .ref (ad (0)))] := lv_sub hl [0, 1, 2] rfl
    refine lp_up mc (fun k => mt_wc g ad lc mc bc (mt_gu N (150 + x_3) 3 0) (c_X3_serveAgain_G lc mc bc (mt_gu N (150 + x_3) 3 0) G) o d) (fun k => [(3, .int (nI k)), (2, .int (c_X3_unmount_ln lc mc bc (mt_gu N (150 + x_3) 3 0) (c_X3_serveAgain_G lc mc bc (mt_gu N (150 + x_3) 3 0) G) x k)), (0, .ref (ad (0)))]) (fun _ => True) 0 (by omega) trivial hW hS hl (fun H locs ls hP hW hS hl => ?_) (fun k H locs ls hk0 hkn hP hW hS hl ih => ?_)
    · have hW : mt_W g z (mt_wc g ad lc mc bc (mt_gu N (150 + x_3) 3 0) (c_X3_serveAgain_G lc mc bc (mt_gu N (150 + x_3) 3 0) G) o d) ad _ := hW
      have hl : lv_has ls 4 [(3, .int (nI mc)), (2, .int (c_X3_unmount_ln lc mc bc (mt_gu N (150 + x_3) 3 0) (c_X3_serveAgain_G lc mc bc (mt_gu N (150 + x_3) 3 0) G) x mc)), (0, .ref (ad (0)))] := hl
      refine lv_iload_n hx hb dX3_unmount_17 rfl (lv_at hl 0 rfl) ?_
      refine lv_aload_n hx hb dX3_unmount_18 rfl (lv_at hl 2 rfl) ?_
      refine mt_get S iw_X3 hC hW wc_0 rfl 8 (by decide) mw_fl_X3_82 rfl rfl dX3_unmount_19 ?_
      refine lv_icmp_ge (tgt := 42) hx hb dX3_unmount_22 (by decide) (fun c_4 => ?_) (fun c_4 => absurd (nI_le (a := mc) (b := mc) (Nat.le_refl _) (by omega)) c_4)
      refine lv_iload_n hx hb dX3_unmount_42 rfl (lv_at hl 1 rfl) ?_
      have hW := hW.to (w1 := mt_wc g ad lc mc bc (c_X3_unmount_N lc mc bc N G x) (c_X3_unmount_G lc mc bc N G x) o d) (by rw [c_X3_unmount_N, scase_r hq_1, c_X3_unmount_G, scase_r hq_1])
      exact mt_ri S hr hk hW hS (congrArg (a₂ := .inr (c_X3_unmount_ln lc mc bc (mt_gu N (150 + x_3) 3 0) (c_X3_serveAgain_G lc mc bc (mt_gu N (150 + x_3) 3 0) G) x mc)) xr_i (by rw [c_X3_unmount, scase_r hq_1])) (Nat.le_of_ble_eq_true rfl) (Nat.le_of_ble_eq_true rfl) dX3_unmount_43
    · have hW : mt_W g z (mt_wc g ad lc mc bc (mt_gu N (150 + x_3) 3 0) (c_X3_serveAgain_G lc mc bc (mt_gu N (150 + x_3) 3 0) G) o d) ad _ := hW
      have hl : lv_has ls 4 [(3, .int (nI k)), (2, .int (c_X3_unmount_ln lc mc bc (mt_gu N (150 + x_3) 3 0) (c_X3_serveAgain_G lc mc bc (mt_gu N (150 + x_3) 3 0) G) x k)), (0, .ref (ad (0)))] := hl
      refine lv_iload_n hx hb dX3_unmount_17 rfl (lv_at hl 0 rfl) ?_
      refine lv_aload_n hx hb dX3_unmount_18 rfl (lv_at hl 2 rfl) ?_
      refine mt_get S iw_X3 hC hW wc_0 rfl 8 (by decide) mw_fl_X3_82 rfl rfl dX3_unmount_19 ?_
      refine lv_icmp_ge (tgt := 42) hx hb dX3_unmount_22 (by decide) (fun c_5 => absurd c_5 (nI_ge (a := k) (b := mc) hkn (by omega))) (fun c_5 => ?_)
      refine lv_aload_n hx hb dX3_unmount_25 rfl (lv_at hl 2 rfl) ?_
      refine lv_iload_n hx hb dX3_unmount_26 rfl (lv_at hl 0 rfl) ?_
      rcases hq_6 : (c_X3_mountThere lc mc bc (mt_gu N (150 + x_3) 3 0) (c_X3_serveAgain_G lc mc bc (mt_gu N (150 + x_3) 3 0) G) (nI k)) with _ | i_7
      · refine mt_cV1 (v := .null) (As := [.int (nI k)]) (rest := []) S pv_X3_mountThere mw_ml_X3_101 (k_X3_mountThere l hlt g z ad lc mc bc (mt_gu N (150 + x_3) 3 0) (c_X3_serveAgain_G lc mc bc (mt_gu N (150 + x_3) 3 0) G) o d h6 h8 hb6 (nI k)) hC hW hS wc_0 rfl rfl rfl hl.1 rfl (Nat.le_of_ble_eq_true rfl) dX3_unmount_27 ⟨(Nat.le_of_ble_eq_true rfl), (Nat.le_of_ble_eq_true rfl)⟩ ⟨(Nat.le_of_ble_eq_true rfl), (Nat.le_of_ble_eq_true rfl)⟩ (congrArg (a₂ := none) (xr_a ad 150) hq_6) (fun H locs hW hS => ?_)
        refine lv_ifnullN (tgt := 36) hx hb dX3_unmount_30 (by decide) ?_
        refine lv_iinc (v := nI (k + 1)) (lv' := [(3, .int (nI (k + 1))), (2, .int (c_X3_unmount_ln lc mc bc (mt_gu N (150 + x_3) 3 0) (c_X3_serveAgain_G lc mc bc (mt_gu N (150 + x_3) 3 0) G) x k)), (0, .ref (ad (0)))]) hx hb dX3_unmount_36 hl (k := 0) rfl (nI_1 _) (by decide) rfl (fun ls hl => ?_)
        refine lv_goto (tgt := 17) hx hb dX3_unmount_39 (by decide) ?_
        have hl : lv_has ls 4 [(3, .int (nI (k + 1))), (2, .int (c_X3_unmount_ln lc mc bc (mt_gu N (150 + x_3) 3 0) (c_X3_serveAgain_G lc mc bc (mt_gu N (150 + x_3) 3 0) G) x (k + 1))), (0, .ref (ad (0)))] := by rw [show c_X3_unmount_ln lc mc bc (mt_gu N (150 + x_3) 3 0) (c_X3_serveAgain_G lc mc bc (mt_gu N (150 + x_3) 3 0) G) x (k + 1) = c_X3_unmount_ln lc mc bc (mt_gu N (150 + x_3) 3 0) (c_X3_serveAgain_G lc mc bc (mt_gu N (150 + x_3) 3 0) G) x k from (by rw [c_X3_unmount_ln, ocase_n hq_6])]; exact lv_sub hl [0, 1, 2] rfl
        exact ih _ _ _ trivial hW hS hl
      · refine mt_cV1 (v := .ref (ad (150 + i_7))) (As := [.int (nI k)]) (rest := []) S pv_X3_mountThere mw_ml_X3_101 (k_X3_mountThere l hlt g z ad lc mc bc (mt_gu N (150 + x_3) 3 0) (c_X3_serveAgain_G lc mc bc (mt_gu N (150 + x_3) 3 0) G) o d h6 h8 hb6 (nI k)) hC hW hS wc_0 rfl rfl rfl hl.1 rfl (Nat.le_of_ble_eq_true rfl) dX3_unmount_27 ⟨(Nat.le_of_ble_eq_true rfl), (Nat.le_of_ble_eq_true rfl)⟩ ⟨(Nat.le_of_ble_eq_true rfl), (Nat.le_of_ble_eq_true rfl)⟩ (congrArg (a₂ := some i_7) (xr_a ad 150) hq_6) (fun H locs hW hS => ?_)
        have hi_i_7 := c_mountThere_lt hq_6
        refine lv_ifnull hx hb dX3_unmount_30 ?_
        refine lv_iinc (v := c_X3_unmount_ln lc mc bc (mt_gu N (150 + x_3) 3 0) (c_X3_serveAgain_G lc mc bc (mt_gu N (150 + x_3) 3 0) G) x k + 1) (lv' := [(2, .int (c_X3_unmount_ln lc mc bc (mt_gu N (150 + x_3) 3 0) (c_X3_serveAgain_G lc mc bc (mt_gu N (150 + x_3) 3 0) G) x k + 1)), (3, .int (nI k)), (0, .ref (ad (0)))]) hx hb dX3_unmount_33 hl (k := 1) rfl rfl (by decide) rfl (fun ls hl => ?_)
        refine lv_iinc (v := nI (k + 1)) (lv' := [(3, .int (nI (k + 1))), (2, .int (c_X3_unmount_ln lc mc bc (mt_gu N (150 + x_3) 3 0) (c_X3_serveAgain_G lc mc bc (mt_gu N (150 + x_3) 3 0) G) x k + 1)), (0, .ref (ad (0)))]) hx hb dX3_unmount_36 hl (k := 1) rfl (nI_1 _) (by decide) rfl (fun ls hl => ?_)
        refine lv_goto (tgt := 17) hx hb dX3_unmount_39 (by decide) ?_
        have hl : lv_has ls 4 [(3, .int (nI (k + 1))), (2, .int (c_X3_unmount_ln lc mc bc (mt_gu N (150 + x_3) 3 0) (c_X3_serveAgain_G lc mc bc (mt_gu N (150 + x_3) 3 0) G) x (k + 1))), (0, .ref (ad (0)))] := by rw [show c_X3_unmount_ln lc mc bc (mt_gu N (150 + x_3) 3 0) (c_X3_serveAgain_G lc mc bc (mt_gu N (150 + x_3) 3 0) G) x (k + 1) = c_X3_unmount_ln lc mc bc (mt_gu N (150 + x_3) 3 0) (c_X3_serveAgain_G lc mc bc (mt_gu N (150 + x_3) 3 0) G) x k + 1 from (by rw [c_X3_unmount_ln, ocase_s hq_6])]; exact lv_sub hl [0, 1, 2] rfl
        exact ih _ _ _ trivial hW hS hl
def c_X3_move (lc mc bc : Nat) (N G : Nat → Nat → Int32) (x : Int32) (y : Int32) : String ⊕ Int32 := scase (c_X3_checkedMount lc mc bc N G x) (fun E_2 => .inl E_2) (fun x_3 => scase (c_X3_checkedPlace y) (fun E_5 => .inl E_5) (fun x_6 => .inr (N (150 + x_3) 2)))
def c_X3_move_G (lc mc bc : Nat) (N G : Nat → Nat → Int32) (x : Int32) (y : Int32) : Nat → Nat → Int32 := scase (c_X3_checkedMount lc mc bc N G x) (fun E_2 => G) (fun x_3 => scase (c_X3_checkedPlace y) (fun E_5 => G) (fun x_6 => c_X3_serveAgain_G lc mc bc (mt_gu N (150 + x_3) 2 y) G))
def c_X3_move_N (lc mc bc : Nat) (N G : Nat → Nat → Int32) (x : Int32) (y : Int32) : Nat → Nat → Int32 := scase (c_X3_checkedMount lc mc bc N G x) (fun E_2 => N) (fun x_3 => scase (c_X3_checkedPlace y) (fun E_5 => N) (fun x_6 => mt_gu N (150 + x_3) 2 y))
set_option maxRecDepth 100000 in
set_option maxHeartbeats 4000000 in
theorem k_X3_move (l : Launch) (hlt : l.stackTraces = false) (g : mt_G) (z : Nat) (ad : Nat → Nat) (lc mc bc : Nat) (N G : Nat → Nat → Int32) (o : Nat → Int64) (d : mt_D) (h6 : lc ≤ 6) (h8 : mc ≤ 8) (hb6 : bc ≤ 6) (x : Int32) (y : Int32)  : mt_K l g z yX3_move cX3_move 5 (some .int) 7 104 2 12 [.ref (ad (0)), .int x, .int y] (mt_wc g ad lc mc bc N G o d) ad (xr_i (c_X3_move lc mc bc N G x y)) (mt_wc g ad lc mc bc (c_X3_move_N lc mc bc N G x y) (c_X3_move_G lc mc bc N G x y) o d) ad := by
  refine mt_ofW (by decide +kernel) (Nat.le_of_ble_eq_true rfl) ?_
  intro p e s m args below meth c S hr9 hk hnm hout hC hW hS ls hl
  have hr := hr9
  have hx := S.1
  have hb := S.2.1
  have hl : lv_has ls 5 [(0, .ref (ad (0))), (1, .int (x)), (2, .int (y))] := hl
  refine lv_aload_n hx hb dX3_move_0 rfl (lv_at hl 0 rfl) ?_
  refine lv_iload_n hx hb dX3_move_1 rfl (lv_at hl 1 rfl) ?_
  rcases hq_1 : (c_X3_checkedMount lc mc bc N G x) with E_2 | x_3
  · exact mt_cVt (As := [.int (x)]) (rest := []) S pv_X3_checkedMount mw_ml_X3_93 (k_X3_checkedMount l hlt g z ad lc mc bc N G o d h6 h8 hb6 x) hC hW hS wc_0 rfl rfl rfl hl.1 rfl (Nat.le_of_ble_eq_true rfl) dX3_move_2 ⟨(Nat.le_of_ble_eq_true rfl), (Nat.le_of_ble_eq_true rfl)⟩ ⟨(Nat.le_of_ble_eq_true rfl), (Nat.le_of_ble_eq_true rfl)⟩ (congrArg (a₂ := .inl E_2) (xr_n ad 150) hq_1) hout hk (congrArg (a₂ := .inl E_2) xr_i (by rw [c_X3_move, scase_l hq_1])) (by rw [c_X3_move_N, scase_l hq_1, c_X3_move_G, scase_l hq_1]) rfl (Nat.le_of_ble_eq_true rfl) (Nat.le_of_ble_eq_true rfl)
  · refine mt_cV1 (As := [.int (x)]) (rest := []) S pv_X3_checkedMount mw_ml_X3_93 (k_X3_checkedMount l hlt g z ad lc mc bc N G o d h6 h8 hb6 x) hC hW hS wc_0 rfl rfl rfl hl.1 rfl (Nat.le_of_ble_eq_true rfl) dX3_move_2 ⟨(Nat.le_of_ble_eq_true rfl), (Nat.le_of_ble_eq_true rfl)⟩ ⟨(Nat.le_of_ble_eq_true rfl), (Nat.le_of_ble_eq_true rfl)⟩ (congrArg (a₂ := .inr x_3) (xr_n ad 150) hq_1) (fun H locs hW hS => ?_)
    have hi_x_3 := c_checkedMount_lt hq_1
    refine lv_astore_n (lv' := [(3, .ref (ad (150 + x_3))), (0, .ref (ad (0))), (1, .int (x)), (2, .int (y))]) hx hb dX3_move_5 rfl hl (by decide) rfl (fun ls hl => ?_)
    refine lv_iload_n hx hb dX3_move_6 rfl (lv_at hl 3 rfl) ?_
    rcases hq_4 : (c_X3_checkedPlace y) with E_5 | x_6
    · exact mt_cSt (As := [.int (y)]) (rest := []) S ps_X3_checkedPlace mw_ml_X3_104 (k_X3_checkedPlace l hlt g z ad lc mc bc N G o d h6 h8 hb6 y) hC hW hS rfl hl.1 rfl (Nat.le_of_ble_eq_true rfl) dX3_move_7 ⟨(Nat.le_of_ble_eq_true rfl), (Nat.le_of_ble_eq_true rfl)⟩ ⟨(Nat.le_of_ble_eq_true rfl), (Nat.le_of_ble_eq_true rfl)⟩ (congrArg (a₂ := .inl E_5) xr_i hq_4) hout hk (congrArg (a₂ := .inl E_5) xr_i (by rw [c_X3_move, scase_r hq_1, scase_l hq_4])) (by rw [c_X3_move_N, scase_r hq_1, scase_l hq_4, c_X3_move_G, scase_r hq_1, scase_l hq_4]) rfl (Nat.le_of_ble_eq_true rfl) (Nat.le_of_ble_eq_true rfl)
    · refine mt_cS1 (As := [.int (y)]) (rest := []) S ps_X3_checkedPlace mw_ml_X3_104 (k_X3_checkedPlace l hlt g z ad lc mc bc N G o d h6 h8 hb6 y) hC hW hS rfl hl.1 rfl (Nat.le_of_ble_eq_true rfl) dX3_move_7 ⟨(Nat.le_of_ble_eq_true rfl), (Nat.le_of_ble_eq_true rfl)⟩ ⟨(Nat.le_of_ble_eq_true rfl), (Nat.le_of_ble_eq_true rfl)⟩ (congrArg (a₂ := .inr x_6) xr_i hq_4) (fun H locs hW hS => ?_)
      refine lv_pop hx hb dX3_move_10 rfl ?_
      refine lv_aload_n hx hb dX3_move_11 rfl (lv_at hl 0 rfl) ?_
      refine mt_getN S iw_X2 hC hW (wc_mnt h8 hi_x_3) rfl 2 (by decide) mw_fn_X3_107 rfl rfl dX3_move_12 ?_
      refine lv_istore (lv' := [(4, .int (N (150 + x_3) 2)), (3, .ref (ad (150 + x_3))), (0, .ref (ad (0))), (1, .int (x)), (2, .int (y))]) hx hb dX3_move_15 hl (by decide) rfl (fun ls hl => ?_)
      refine lv_aload_n hx hb dX3_move_17 rfl (lv_at hl 1 rfl) ?_
      refine lv_iload_n hx hb dX3_move_18 rfl (lv_at hl 4 rfl) ?_
      refine mt_putN S iw_X2 tyX2 tyX2_ok nmX2 hC hW hS (wc_mnt h8 hi_x_3) rfl 2 (by decide) mw_fn_X3_107 rfl rfl rfl rfl (Nat.le_of_ble_eq_true rfl) dX3_move_19 (fun H locs hW hS => ?_)
      have hW := hW.to (wc_setm h8 hi_x_3 (by decide))
      refine lv_aload_n hx hb dX3_move_22 rfl (lv_at hl 2 rfl) ?_
      refine mt_cVv (As := []) (rest := []) S pv_X3_serveAgain mw_ml_X3_90 (k_X3_serveAgain l hlt g z ad lc mc bc (mt_gu N (150 + x_3) 2 y) G o d h6 h8 hb6 ) hC hW hS wc_0 rfl rfl rfl hl.1 rfl (Nat.le_of_ble_eq_true rfl) dX3_move_23 ⟨(Nat.le_of_ble_eq_true rfl), (Nat.le_of_ble_eq_true rfl)⟩ ⟨(Nat.le_of_ble_eq_true rfl), (Nat.le_of_ble_eq_true rfl)⟩ rfl (fun H locs hW hS => ?_)
      refine lv_iload hx hb dX3_move_26 (lv_at hl 0 rfl) ?_
      have hW := hW.to (w1 := mt_wc g ad lc mc bc (c_X3_move_N lc mc bc N G x y) (c_X3_move_G lc mc bc N G x y) o d) (by rw [c_X3_move_N, scase_r hq_1, scase_r hq_4, c_X3_move_G, scase_r hq_1, scase_r hq_4])
      exact mt_ri S hr hk hW hS (congrArg (a₂ := .inr (N (150 + x_3) 2)) xr_i (by rw [c_X3_move, scase_r hq_1, scase_r hq_4])) (Nat.le_of_ble_eq_true rfl) (Nat.le_of_ble_eq_true rfl) dX3_move_28
def c_X3_setCrossing (lc mc bc : Nat) (N G : Nat → Nat → Int32) (x : Int32) (b : Int32) : String ⊕ Int32 := scase (c_X3_checkedMount lc mc bc N G x) (fun E_2 => .inl E_2) (fun x_3 => .inr (N (150 + x_3) 4))
def c_X3_setCrossing_N (lc mc bc : Nat) (N G : Nat → Nat → Int32) (x : Int32) (b : Int32) : Nat → Nat → Int32 := scase (c_X3_checkedMount lc mc bc N G x) (fun E_2 => N) (fun x_3 => mt_gu N (150 + x_3) 4 b)
set_option maxRecDepth 100000 in
set_option maxHeartbeats 4000000 in
theorem k_X3_setCrossing (l : Launch) (hlt : l.stackTraces = false) (g : mt_G) (z : Nat) (ad : Nat → Nat) (lc mc bc : Nat) (N G : Nat → Nat → Int32) (o : Nat → Int64) (d : mt_D) (h6 : lc ≤ 6) (h8 : mc ≤ 8) (hb6 : bc ≤ 6) (x : Int32) (b : Int32) (hb01 : b = 0 ∨ b = 1) (hN01 : ∀ i, i < mc → N (150 + i) 4 = 0 ∨ N (150 + i) 4 = 1) : mt_K l g z yX3_setCrossing cX3_setCrossing 5 (some .boolean) 7 104 1 6 [.ref (ad (0)), .int x, .int b] (mt_wc g ad lc mc bc N G o d) ad (xr_i (c_X3_setCrossing lc mc bc N G x b)) (mt_wc g ad lc mc bc (c_X3_setCrossing_N lc mc bc N G x b) G o d) ad := by
  refine mt_ofW (by decide +kernel) (Nat.le_of_ble_eq_true rfl) ?_
  intro p e s m args below meth c S hr9 hk hnm hout hC hW hS ls hl
  have hr := hr9
  have hx := S.1
  have hb := S.2.1
  have hl : lv_has ls 5 [(0, .ref (ad (0))), (1, .int (x)), (2, .int (b))] := hl
  refine lv_aload_n hx hb dX3_setCrossing_0 rfl (lv_at hl 0 rfl) ?_
  refine lv_iload_n hx hb dX3_setCrossing_1 rfl (lv_at hl 1 rfl) ?_
  rcases hq_1 : (c_X3_checkedMount lc mc bc N G x) with E_2 | x_3
  · exact mt_cVt (As := [.int (x)]) (rest := []) S pv_X3_checkedMount mw_ml_X3_93 (k_X3_checkedMount l hlt g z ad lc mc bc N G o d h6 h8 hb6 x) hC hW hS wc_0 rfl rfl rfl hl.1 rfl (Nat.le_of_ble_eq_true rfl) dX3_setCrossing_2 ⟨(Nat.le_of_ble_eq_true rfl), (Nat.le_of_ble_eq_true rfl)⟩ ⟨(Nat.le_of_ble_eq_true rfl), (Nat.le_of_ble_eq_true rfl)⟩ (congrArg (a₂ := .inl E_2) (xr_n ad 150) hq_1) hout hk (congrArg (a₂ := .inl E_2) xr_i (by rw [c_X3_setCrossing, scase_l hq_1])) (by rw [c_X3_setCrossing_N, scase_l hq_1]) rfl (Nat.le_of_ble_eq_true rfl) (Nat.le_of_ble_eq_true rfl)
  · refine mt_cV1 (As := [.int (x)]) (rest := []) S pv_X3_checkedMount mw_ml_X3_93 (k_X3_checkedMount l hlt g z ad lc mc bc N G o d h6 h8 hb6 x) hC hW hS wc_0 rfl rfl rfl hl.1 rfl (Nat.le_of_ble_eq_true rfl) dX3_setCrossing_2 ⟨(Nat.le_of_ble_eq_true rfl), (Nat.le_of_ble_eq_true rfl)⟩ ⟨(Nat.le_of_ble_eq_true rfl), (Nat.le_of_ble_eq_true rfl)⟩ (congrArg (a₂ := .inr x_3) (xr_n ad 150) hq_1) (fun H locs hW hS => ?_)
    have hi_x_3 := c_checkedMount_lt hq_1
    refine lv_astore_n (lv' := [(3, .ref (ad (150 + x_3))), (0, .ref (ad (0))), (1, .int (x)), (2, .int (b))]) hx hb dX3_setCrossing_5 rfl hl (by decide) rfl (fun ls hl => ?_)
    refine lv_aload_n hx hb dX3_setCrossing_6 rfl (lv_at hl 0 rfl) ?_
    refine mt_getN S iw_X2 hC hW (wc_mnt h8 hi_x_3) rfl 4 (by decide) mw_fn_X3_110 rfl rfl dX3_setCrossing_7 ?_
    refine lv_istore (lv' := [(4, .int (N (150 + x_3) 4)), (3, .ref (ad (150 + x_3))), (0, .ref (ad (0))), (1, .int (x)), (2, .int (b))]) hx hb dX3_setCrossing_10 hl (by decide) rfl (fun ls hl => ?_)
    refine lv_aload_n hx hb dX3_setCrossing_12 rfl (lv_at hl 1 rfl) ?_
    refine lv_iload_n hx hb dX3_setCrossing_13 rfl (lv_at hl 4 rfl) ?_
    refine mt_putN S iw_X2 tyX2 tyX2_ok nmX2 hC hW hS (wc_mnt h8 hi_x_3) rfl 4 (by decide) mw_fn_X3_110 rfl rfl (by rcases hb01 with h9 | h9 <;> rw [h9] <;> rfl) (by rcases hb01 with h9 | h9 <;> rw [h9] <;> rfl) (Nat.le_of_ble_eq_true rfl) dX3_setCrossing_14 (fun H locs hW hS => ?_)
    have hW := hW.to (wc_setm h8 hi_x_3 (by decide))
    refine lv_iload hx hb dX3_setCrossing_17 (lv_at hl 0 rfl) ?_
    have hW := hW.to (w1 := mt_wc g ad lc mc bc (c_X3_setCrossing_N lc mc bc N G x b) G o d) (by rw [c_X3_setCrossing_N, scase_r hq_1])
    exact mt_rz S hr hk (by rcases hN01 _ hi_x_3 with h9 | h9 <;> rw [h9] <;> rfl) hW hS (congrArg (a₂ := .inr (N (150 + x_3) 4)) xr_i (by rw [c_X3_setCrossing, scase_r hq_1])) (Nat.le_of_ble_eq_true rfl) (Nat.le_of_ble_eq_true rfl) dX3_setCrossing_19
def c_X3_sizeByWalking_ln (lc mc bc : Nat) (N G : Nat → Nat → Int32) (x : Int32) : Nat → Int32
  | 0 => -1
  | k + 1 => ocase (c_X3_mountThere lc mc bc N G (nI k)) (c_X3_sizeByWalking_ln lc mc bc N G x k) (fun i_7 => if (c_X3_restBehind (N (150 + i_7) 2) x) = (-1) then (c_X3_sizeByWalking_ln lc mc bc N G x k) else (c_X3_fileSizeIn lc mc bc N G (c_X3_layerShownBy lc mc bc N G (some i_7) (c_X3_placeOf (c_X3_restBehind (N (150 + i_7) 2) x))) (c_X3_placeOf (c_X3_restBehind (N (150 + i_7) 2) x))))
def c_X3_sizeByWalking (lc mc bc : Nat) (N G : Nat → Nat → Int32) (x : Int32) : String ⊕ Int32 := scase (c_X3_checkedPlace x) (fun E_2 => .inl E_2) (fun x_3 => .inr (c_X3_sizeByWalking_ln lc mc bc N G x mc))
set_option maxRecDepth 100000 in
set_option maxHeartbeats 4000000 in
theorem k_X3_sizeByWalking (l : Launch) (hlt : l.stackTraces = false) (g : mt_G) (z : Nat) (ad : Nat → Nat) (lc mc bc : Nat) (N G : Nat → Nat → Int32) (o : Nat → Int64) (d : mt_D) (h6 : lc ≤ 6) (h8 : mc ≤ 8) (hb6 : bc ≤ 6) (x : Int32)  : mt_K l g z yX3_sizeByWalking cX3_sizeByWalking 6 (some .int) 7 103 1 6 [.ref (ad (0)), .int x] (mt_wc g ad lc mc bc N G o d) ad (xr_i (c_X3_sizeByWalking lc mc bc N G x)) (mt_wc g ad lc mc bc N G o d) ad := by
  refine mt_ofW (by decide +kernel) (Nat.le_of_ble_eq_true rfl) ?_
  intro p e s m args below meth c S hr9 hk hnm hout hC hW hS ls hl
  have hr := hr9
  have hx := S.1
  have hb := S.2.1
  have hl : lv_has ls 6 [(0, .ref (ad (0))), (1, .int (x))] := hl
  refine lv_iload_n hx hb dX3_sizeByWalking_0 rfl (lv_at hl 1 rfl) ?_
  rcases hq_1 : (c_X3_checkedPlace x) with E_2 | x_3
  · exact mt_cSt (As := [.int (x)]) (rest := []) S ps_X3_checkedPlace mw_ml_X3_104 (k_X3_checkedPlace l hlt g z ad lc mc bc N G o d h6 h8 hb6 x) hC hW hS rfl hl.1 rfl (Nat.le_of_ble_eq_true rfl) dX3_sizeByWalking_1 ⟨(Nat.le_of_ble_eq_true rfl), (Nat.le_of_ble_eq_true rfl)⟩ ⟨(Nat.le_of_ble_eq_true rfl), (Nat.le_of_ble_eq_true rfl)⟩ (congrArg (a₂ := .inl E_2) xr_i hq_1) hout hk (congrArg (a₂ := .inl E_2) xr_i (by rw [c_X3_sizeByWalking, scase_l hq_1])) rfl rfl (Nat.le_of_ble_eq_true rfl) (Nat.le_of_ble_eq_true rfl)
  · refine mt_cS1 (As := [.int (x)]) (rest := []) S ps_X3_checkedPlace mw_ml_X3_104 (k_X3_checkedPlace l hlt g z ad lc mc bc N G o d h6 h8 hb6 x) hC hW hS rfl hl.1 rfl (Nat.le_of_ble_eq_true rfl) dX3_sizeByWalking_1 ⟨(Nat.le_of_ble_eq_true rfl), (Nat.le_of_ble_eq_true rfl)⟩ ⟨(Nat.le_of_ble_eq_true rfl), (Nat.le_of_ble_eq_true rfl)⟩ (congrArg (a₂ := .inr x_3) xr_i hq_1) (fun H locs hW hS => ?_)
    refine lv_pop hx hb dX3_sizeByWalking_4 rfl ?_
    refine lv_iconst (v := -1) hx hb dX3_sizeByWalking_5 (by decide) ?_
    refine lv_istore_n (lv' := [(2, .int (-1)), (0, .ref (ad (0))), (1, .int (x))]) hx hb dX3_sizeByWalking_6 rfl hl (by decide) rfl (fun ls hl => ?_)
    refine lv_iconst (v := 0) hx hb dX3_sizeByWalking_7 (by decide) ?_
    refine lv_istore_n (lv' := [(3, .int (0)), (2, .int (-1)), (0, .ref (ad (0))), (1, .int (x))]) hx hb dX3_sizeByWalking_8 rfl hl (by decide) rfl (fun ls hl => ?_)
    have hl : lv_has ls 6 [(3, .int (nI 0)), (2, .int (c_X3_sizeByWalking_ln lc mc bc N G x 0)), (0, .ref (ad (0))), (1, .int (x))] := lv_sub hl [0, 1, 2, 3] rfl
    refine lp_up mc (fun k => mt_wc g ad lc mc bc N G o d) (fun k => [(3, .int (nI k)), (2, .int (c_X3_sizeByWalking_ln lc mc bc N G x k)), (0, .ref (ad (0))), (1, .int (x))]) (fun _ => True) 0 (by omega) trivial hW hS hl (fun H locs ls hP hW hS hl => ?_) (fun k H locs ls hk0 hkn hP hW hS hl ih => ?_)
    · have hW : mt_W g z (mt_wc g ad lc mc bc N G o d) ad _ := hW
      have hl : lv_has ls 6 [(3, .int (nI mc)), (2, .int (c_X3_sizeByWalking_ln lc mc bc N G x mc)), (0, .ref (ad (0))), (1, .int (x))] := hl
      refine lv_iload_n hx hb dX3_sizeByWalking_9 rfl (lv_at hl 0 rfl) ?_
      refine lv_aload_n hx hb dX3_sizeByWalking_10 rfl (lv_at hl 2 rfl) ?_
      refine mt_get S iw_X3 hC hW wc_0 rfl 8 (by decide) mw_fl_X3_82 rfl rfl dX3_sizeByWalking_11 ?_
      refine lv_icmp_ge (tgt := 77) hx hb dX3_sizeByWalking_14 (by decide) (fun c_4 => ?_) (fun c_4 => absurd (nI_le (a := mc) (b := mc) (Nat.le_refl _) (by omega)) c_4)
      refine lv_iload_n hx hb dX3_sizeByWalking_77 rfl (lv_at hl 1 rfl) ?_
      exact mt_ri S hr hk hW hS (congrArg (a₂ := .inr (c_X3_sizeByWalking_ln lc mc bc N G x mc)) xr_i (by rw [c_X3_sizeByWalking, scase_r hq_1])) (Nat.le_of_ble_eq_true rfl) (Nat.le_of_ble_eq_true rfl) dX3_sizeByWalking_78
    · have hW : mt_W g z (mt_wc g ad lc mc bc N G o d) ad _ := hW
      have hl : lv_has ls 6 [(3, .int (nI k)), (2, .int (c_X3_sizeByWalking_ln lc mc bc N G x k)), (0, .ref (ad (0))), (1, .int (x))] := hl
      refine lv_iload_n hx hb dX3_sizeByWalking_9 rfl (lv_at hl 0 rfl) ?_
      refine lv_aload_n hx hb dX3_sizeByWalking_10 rfl (lv_at hl 2 rfl) ?_
      refine mt_get S iw_X3 hC hW wc_0 rfl 8 (by decide) mw_fl_X3_82 rfl rfl dX3_sizeByWalking_11 ?_
      refine lv_icmp_ge (tgt := 77) hx hb dX3_sizeByWalking_14 (by decide) (fun c_5 => absurd c_5 (nI_ge (a := k) (b := mc) hkn (by omega))) (fun c_5 => ?_)
      refine lv_aload_n hx hb dX3_sizeByWalking_17 rfl (lv_at hl 2 rfl) ?_
      refine lv_iload_n hx hb dX3_sizeByWalking_18 rfl (lv_at hl 0 rfl) ?_
      rcases hq_6 : (c_X3_mountThere lc mc bc N G (nI k)) with _ | i_7
      · refine mt_cV1 (v := .null) (As := [.int (nI k)]) (rest := []) S pv_X3_mountThere mw_ml_X3_101 (k_X3_mountThere l hlt g z ad lc mc bc N G o d h6 h8 hb6 (nI k)) hC hW hS wc_0 rfl rfl rfl hl.1 rfl (Nat.le_of_ble_eq_true rfl) dX3_sizeByWalking_19 ⟨(Nat.le_of_ble_eq_true rfl), (Nat.le_of_ble_eq_true rfl)⟩ ⟨(Nat.le_of_ble_eq_true rfl), (Nat.le_of_ble_eq_true rfl)⟩ (congrArg (a₂ := none) (xr_a ad 150) hq_6) (fun H locs hW hS => ?_)
        refine lv_astoreN (lv' := [(4, .null), (3, .int (nI k)), (2, .int (c_X3_sizeByWalking_ln lc mc bc N G x k)), (0, .ref (ad (0))), (1, .int (x))]) hx hb dX3_sizeByWalking_22 hl (by decide) rfl (fun ls hl => ?_)
        refine lv_aloadN hx hb dX3_sizeByWalking_24 (lv_at hl 0 rfl) ?_
        refine lv_ifnonnullN hx hb dX3_sizeByWalking_26 ?_
        refine lv_iconst (v := -1) hx hb dX3_sizeByWalking_29 (by decide) ?_
        refine lv_goto (tgt := 42) hx hb dX3_sizeByWalking_30 (by decide) ?_
        refine lv_istore (lv' := [(5, .int (-1)), (4, .null), (3, .int (nI k)), (2, .int (c_X3_sizeByWalking_ln lc mc bc N G x k)), (0, .ref (ad (0))), (1, .int (x))]) hx hb dX3_sizeByWalking_42 hl (by decide) rfl (fun ls hl => ?_)
        refine lv_iload hx hb dX3_sizeByWalking_44 (lv_at hl 0 rfl) ?_
        refine lv_iconst (v := -1) hx hb dX3_sizeByWalking_46 (by decide) ?_
        refine lv_icmp_eq (tgt := 71) hx hb dX3_sizeByWalking_47 (by decide) (fun c_8 => ?_) (fun c_8 => absurd (by decide) c_8)
        refine lv_iinc (v := nI (k + 1)) (lv' := [(3, .int (nI (k + 1))), (5, .int (-1)), (4, .null), (2, .int (c_X3_sizeByWalking_ln lc mc bc N G x k)), (0, .ref (ad (0))), (1, .int (x))]) hx hb dX3_sizeByWalking_71 hl (k := 2) rfl (nI_1 _) (by decide) rfl (fun ls hl => ?_)
        refine lv_goto (tgt := 9) hx hb dX3_sizeByWalking_74 (by decide) ?_
        have hl : lv_has ls 6 [(3, .int (nI (k + 1))), (2, .int (c_X3_sizeByWalking_ln lc mc bc N G x (k + 1))), (0, .ref (ad (0))), (1, .int (x))] := by rw [show c_X3_sizeByWalking_ln lc mc bc N G x (k + 1) = c_X3_sizeByWalking_ln lc mc bc N G x k from (by rw [c_X3_sizeByWalking_ln, ocase_n hq_6])]; exact lv_sub hl [0, 3, 4, 5] rfl
        exact ih _ _ _ trivial hW hS hl
      · refine mt_cV1 (v := .ref (ad (150 + i_7))) (As := [.int (nI k)]) (rest := []) S pv_X3_mountThere mw_ml_X3_101 (k_X3_mountThere l hlt g z ad lc mc bc N G o d h6 h8 hb6 (nI k)) hC hW hS wc_0 rfl rfl rfl hl.1 rfl (Nat.le_of_ble_eq_true rfl) dX3_sizeByWalking_19 ⟨(Nat.le_of_ble_eq_true rfl), (Nat.le_of_ble_eq_true rfl)⟩ ⟨(Nat.le_of_ble_eq_true rfl), (Nat.le_of_ble_eq_true rfl)⟩ (congrArg (a₂ := some i_7) (xr_a ad 150) hq_6) (fun H locs hW hS => ?_)
        have hi_i_7 := c_mountThere_lt hq_6
        refine lv_astore (lv' := [(4, .ref (ad (150 + i_7))), (3, .int (nI k)), (2, .int (c_X3_sizeByWalking_ln lc mc bc N G x k)), (0, .ref (ad (0))), (1, .int (x))]) hx hb dX3_sizeByWalking_22 hl (by decide) rfl (fun ls hl => ?_)
        refine lv_aload hx hb dX3_sizeByWalking_24 (lv_at hl 0 rfl) ?_
        refine lv_ifnonnull (tgt := 33) hx hb dX3_sizeByWalking_26 (by decide) ?_
        refine lv_aload hx hb dX3_sizeByWalking_33 (lv_at hl 0 rfl) ?_
        refine mt_getN S iw_X2 hC hW (wc_mnt h8 hi_i_7) rfl 2 (by decide) mw_fn_X3_107 rfl rfl dX3_sizeByWalking_35 ?_
        refine lv_iload_n hx hb dX3_sizeByWalking_38 rfl (lv_at hl 4 rfl) ?_
        refine mt_cS1 (As := [.int (N (150 + i_7) 2), .int (x)]) (rest := []) S ps_X3_restBehind mw_ml_X3_191 (k_X3_restBehind l hlt g z ad lc mc bc N G o d h6 h8 hb6 (N (150 + i_7) 2) x) hC hW hS rfl hl.1 rfl (Nat.le_of_ble_eq_true rfl) dX3_sizeByWalking_39 ⟨(Nat.le_of_ble_eq_true rfl), (Nat.le_of_ble_eq_true rfl)⟩ ⟨(Nat.le_of_ble_eq_true rfl), (Nat.le_of_ble_eq_true rfl)⟩ rfl (fun H locs hW hS => ?_)
        refine lv_istore (lv' := [(5, .int (c_X3_restBehind (N (150 + i_7) 2) x)), (4, .ref (ad (150 + i_7))), (3, .int (nI k)), (2, .int (c_X3_sizeByWalking_ln lc mc bc N G x k)), (0, .ref (ad (0))), (1, .int (x))]) hx hb dX3_sizeByWalking_42 hl (by decide) rfl (fun ls hl => ?_)
        refine lv_iload hx hb dX3_sizeByWalking_44 (lv_at hl 0 rfl) ?_
        refine lv_iconst (v := -1) hx hb dX3_sizeByWalking_46 (by decide) ?_
        refine lv_icmp_eq (tgt := 71) hx hb dX3_sizeByWalking_47 (by decide) (fun c_9 => ?_) (fun c_9 => ?_)
        · refine lv_iinc (v := nI (k + 1)) (lv' := [(3, .int (nI (k + 1))), (5, .int (c_X3_restBehind (N (150 + i_7) 2) x)), (4, .ref (ad (150 + i_7))), (2, .int (c_X3_sizeByWalking_ln lc mc bc N G x k)), (0, .ref (ad (0))), (1, .int (x))]) hx hb dX3_sizeByWalking_71 hl (k := 2) rfl (nI_1 _) (by decide) rfl (fun ls hl => ?_)
          refine lv_goto (tgt := 9) hx hb dX3_sizeByWalking_74 (by decide) ?_
          have hl : lv_has ls 6 [(3, .int (nI (k + 1))), (2, .int (c_X3_sizeByWalking_ln lc mc bc N G x (k + 1))), (0, .ref (ad (0))), (1, .int (x))] := by rw [show c_X3_sizeByWalking_ln lc mc bc N G x (k + 1) = c_X3_sizeByWalking_ln lc mc bc N G x k from (by rw [c_X3_sizeByWalking_ln, ocase_s hq_6, if_pos c_9])]; exact lv_sub hl [0, 3, 4, 5] rfl
          exact ih _ _ _ trivial hW hS hl
        · refine lv_aload_n hx hb dX3_sizeByWalking_50 rfl (lv_at hl 4 rfl) ?_
          refine lv_aload_n hx hb dX3_sizeByWalking_51 rfl (lv_at hl 4 rfl) ?_
          refine lv_aload hx hb dX3_sizeByWalking_52 (lv_at hl 1 rfl) ?_
          refine lv_iload hx hb dX3_sizeByWalking_54 (lv_at hl 0 rfl) ?_
          refine mt_cS1 (As := [.int (c_X3_restBehind (N (150 + i_7) 2) x)]) (rest := [.ref (ad (150 + i_7)), .ref (ad (0)), .ref (ad (0))]) S ps_X3_placeOf mw_ml_X3_52 (k_X3_placeOf l hlt g z ad lc mc bc N G o d h6 h8 hb6 (c_X3_restBehind (N (150 + i_7) 2) x)) hC hW hS rfl hl.1 rfl (Nat.le_of_ble_eq_true rfl) dX3_sizeByWalking_56 ⟨(Nat.le_of_ble_eq_true rfl), (Nat.le_of_ble_eq_true rfl)⟩ ⟨(Nat.le_of_ble_eq_true rfl), (Nat.le_of_ble_eq_true rfl)⟩ rfl (fun H locs hW hS => ?_)
          refine mt_cV1 (As := [.ref (ad (150 + i_7)), .int (c_X3_placeOf (c_X3_restBehind (N (150 + i_7) 2) x))]) (rest := [.ref (ad (0))]) S pv_X3_layerShownBy mw_ml_X3_194 (k_X3_layerShownBy l hlt g z ad lc mc bc N G o d h6 h8 hb6 (some i_7) (c_X3_placeOf (c_X3_restBehind (N (150 + i_7) 2) x)) (fun i e => by cases e; exact hi_i_7)) hC hW hS wc_0 rfl rfl rfl hl.1 rfl (Nat.le_of_ble_eq_true rfl) dX3_sizeByWalking_59 ⟨(Nat.le_of_ble_eq_true rfl), (Nat.le_of_ble_eq_true rfl)⟩ ⟨(Nat.le_of_ble_eq_true rfl), (Nat.le_of_ble_eq_true rfl)⟩ rfl (fun H locs hW hS => ?_)
          refine lv_iload hx hb dX3_sizeByWalking_62 (lv_at hl 0 rfl) ?_
          refine mt_cS1 (As := [.int (c_X3_restBehind (N (150 + i_7) 2) x)]) (rest := [.int (c_X3_layerShownBy lc mc bc N G (some i_7) (c_X3_placeOf (c_X3_restBehind (N (150 + i_7) 2) x))), .ref (ad (0))]) S ps_X3_placeOf mw_ml_X3_52 (k_X3_placeOf l hlt g z ad lc mc bc N G o d h6 h8 hb6 (c_X3_restBehind (N (150 + i_7) 2) x)) hC hW hS rfl hl.1 rfl (Nat.le_of_ble_eq_true rfl) dX3_sizeByWalking_64 ⟨(Nat.le_of_ble_eq_true rfl), (Nat.le_of_ble_eq_true rfl)⟩ ⟨(Nat.le_of_ble_eq_true rfl), (Nat.le_of_ble_eq_true rfl)⟩ rfl (fun H locs hW hS => ?_)
          refine mt_cV1 (As := [.int (c_X3_layerShownBy lc mc bc N G (some i_7) (c_X3_placeOf (c_X3_restBehind (N (150 + i_7) 2) x))), .int (c_X3_placeOf (c_X3_restBehind (N (150 + i_7) 2) x))]) (rest := []) S pv_X3_fileSizeIn mw_ml_X3_198 (k_X3_fileSizeIn l hlt g z ad lc mc bc N G o d h6 h8 hb6 (c_X3_layerShownBy lc mc bc N G (some i_7) (c_X3_placeOf (c_X3_restBehind (N (150 + i_7) 2) x))) (c_X3_placeOf (c_X3_restBehind (N (150 + i_7) 2) x))) hC hW hS wc_0 rfl rfl rfl hl.1 rfl (Nat.le_of_ble_eq_true rfl) dX3_sizeByWalking_67 ⟨(Nat.le_of_ble_eq_true rfl), (Nat.le_of_ble_eq_true rfl)⟩ ⟨(Nat.le_of_ble_eq_true rfl), (Nat.le_of_ble_eq_true rfl)⟩ rfl (fun H locs hW hS => ?_)
          refine lv_istore_n (lv' := [(2, .int (c_X3_fileSizeIn lc mc bc N G (c_X3_layerShownBy lc mc bc N G (some i_7) (c_X3_placeOf (c_X3_restBehind (N (150 + i_7) 2) x))) (c_X3_placeOf (c_X3_restBehind (N (150 + i_7) 2) x)))), (5, .int (c_X3_restBehind (N (150 + i_7) 2) x)), (4, .ref (ad (150 + i_7))), (3, .int (nI k)), (0, .ref (ad (0))), (1, .int (x))]) hx hb dX3_sizeByWalking_70 rfl hl (by decide) rfl (fun ls hl => ?_)
          refine lv_iinc (v := nI (k + 1)) (lv' := [(3, .int (nI (k + 1))), (2, .int (c_X3_fileSizeIn lc mc bc N G (c_X3_layerShownBy lc mc bc N G (some i_7) (c_X3_placeOf (c_X3_restBehind (N (150 + i_7) 2) x))) (c_X3_placeOf (c_X3_restBehind (N (150 + i_7) 2) x)))), (5, .int (c_X3_restBehind (N (150 + i_7) 2) x)), (4, .ref (ad (150 + i_7))), (0, .ref (ad (0))), (1, .int (x))]) hx hb dX3_sizeByWalking_71 hl (k := 3) rfl (nI_1 _) (by decide) rfl (fun ls hl => ?_)
          refine lv_goto (tgt := 9) hx hb dX3_sizeByWalking_74 (by decide) ?_
          have hl : lv_has ls 6 [(3, .int (nI (k + 1))), (2, .int (c_X3_sizeByWalking_ln lc mc bc N G x (k + 1))), (0, .ref (ad (0))), (1, .int (x))] := by rw [show c_X3_sizeByWalking_ln lc mc bc N G x (k + 1) = c_X3_fileSizeIn lc mc bc N G (c_X3_layerShownBy lc mc bc N G (some i_7) (c_X3_placeOf (c_X3_restBehind (N (150 + i_7) 2) x))) (c_X3_placeOf (c_X3_restBehind (N (150 + i_7) 2) x)) from (by rw [c_X3_sizeByWalking_ln, ocase_s hq_6, if_neg c_9])]; exact lv_sub hl [0, 1, 4, 5] rfl
          exact ih _ _ _ trivial hW hS hl

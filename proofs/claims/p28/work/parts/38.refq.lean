def c_X4_write (lc mc bc : Nat) (N G : Nat → Nat → Int32) (x : Int32) (y : Int32) (v : Int32) : Int32 := if (c_X4_isOwner x) = 0 then (-1) else (if (c_inI v 0 9999) = 0 then (-1) else (if (c_X4_isPath y) = 0 then (-1) else (if (c_X4_canWrite lc mc bc N G y) = 0 then (-1) else (if ((c_X4_used lc mc bc N G x (c_X4_target lc mc bc N G y)) + v) ≤ (G 211 x.toNatClampNeg) then ((c_X4_used lc mc bc N G x (c_X4_target lc mc bc N G y)) + v) else (-1)))))
def c_X4_write_G (lc mc bc : Nat) (N G : Nat → Nat → Int32) (x : Int32) (y : Int32) (v : Int32) : Nat → Nat → Int32 := if (c_X4_isOwner x) = 0 then G else (if (c_inI v 0 9999) = 0 then G else (if (c_X4_isPath y) = 0 then G else (if (c_X4_canWrite lc mc bc N G y) = 0 then G else (if ((c_X4_used lc mc bc N G x (c_X4_target lc mc bc N G y)) + v) ≤ (G 211 x.toNatClampNeg) then (c_X4_puts_G lc mc bc (mt_gu N 200 15 0) G y 1 x v) else G))))
def c_X4_write_N (lc mc bc : Nat) (N G : Nat → Nat → Int32) (x : Int32) (y : Int32) (v : Int32) : Nat → Nat → Int32 := if (c_X4_isOwner x) = 0 then (mt_gu N 200 15 1) else (if (c_inI v 0 9999) = 0 then (mt_gu N 200 15 1) else (if (c_X4_isPath y) = 0 then (mt_gu N 200 15 1) else (if (c_X4_canWrite lc mc bc N G y) = 0 then (mt_gu N 200 15 2) else (if ((c_X4_used lc mc bc N G x (c_X4_target lc mc bc N G y)) + v) ≤ (G 211 x.toNatClampNeg) then (c_X4_puts_N lc mc bc (mt_gu N 200 15 0) G y 1 x v) else (mt_gu N 200 15 3)))))
set_option maxRecDepth 100000 in
set_option maxHeartbeats 4000000 in
theorem k_X4_write (l : Launch) (hlt : l.stackTraces = false) (g : mt_G) (z : Nat) (ad : Nat → Nat) (lc mc bc : Nat) (N G : Nat → Nat → Int32) (o : Nat → Int64) (d : mt_D) (h6 : lc ≤ 6) (h8 : mc ≤ 8) (hb6 : bc ≤ 6) (x : Int32) (y : Int32) (v : Int32) (hM : MI N G) : mt_K l g z yX4_write cX4_write 5 (some .int) 5 119 0 0 [.ref (ad (200)), .int x, .int y, .int v] (mt_wc g ad lc mc bc N G o d) ad (.inr (some (.int (c_X4_write lc mc bc N G x y v)))) (mt_wc g ad lc mc bc (c_X4_write_N lc mc bc N G x y v) (c_X4_write_G lc mc bc N G x y v) o d) ad := by
  refine mt_ofW (by decide +kernel) (Nat.le_of_ble_eq_true rfl) ?_
  intro p e s m args below meth c S hr9 hk hnm hout hC hW hS ls hl
  have hr := hr9
  have hx := S.1
  have hb := S.2.1
  have hl : lv_has ls 5 [(0, .ref (ad (200))), (1, .int (x)), (2, .int (y)), (3, .int (v))] := hl
  refine lv_iload_n hx hb dX4_write_0 rfl (lv_at hl 1 rfl) ?_
  refine mt_cS1 (As := [.int (x)]) (rest := []) S ps_X4_isOwner mw_ml_X4_113 (k_X4_isOwner l hlt g z ad lc mc bc N G o d h6 h8 hb6 x) hC hW hS rfl hl.1 rfl (Nat.le_of_ble_eq_true rfl) dX4_write_1 ⟨(Nat.le_of_ble_eq_true rfl), (Nat.le_of_ble_eq_true rfl)⟩ ⟨(Nat.le_of_ble_eq_true rfl), (Nat.le_of_ble_eq_true rfl)⟩ rfl (fun H locs hW hS => ?_)
  refine lv_if_eq (tgt := 26) hx hb dX4_write_4 (by decide) (fun c_1 => ?_) (fun c_1 => ?_)
  · refine lv_aload_n hx hb dX4_write_26 rfl (lv_at hl 0 rfl) ?_
    refine lv_iconst (v := 1) hx hb dX4_write_27 (by decide) ?_
    refine mt_put S iw_X4 tyX4 tyX4_ok nmX4 hC hW hS wc_200 rfl 15 (by decide) mw_fl_X4_44 rfl rfl rfl rfl (Nat.le_of_ble_eq_true rfl) dX4_write_28 (fun H locs hW hS => ?_)
    have hW := hW.to (w1 := mt_wc g ad lc mc bc (mt_gu N 200 15 1) G o d) (wc_sett (by decide))
    refine lv_iconst (v := -1) hx hb dX4_write_31 (by decide) ?_
    have hW := hW.to (w1 := mt_wc g ad lc mc bc (c_X4_write_N lc mc bc N G x y v) (c_X4_write_G lc mc bc N G x y v) o d) (by rw [c_X4_write_N, if_pos c_1, c_X4_write_G, if_pos c_1])
    exact mt_ri S hr hk hW hS (by rw [c_X4_write, if_pos c_1]) (Nat.le_of_ble_eq_true rfl) (Nat.le_of_ble_eq_true rfl) dX4_write_32
  · refine lv_iload_n hx hb dX4_write_7 rfl (lv_at hl 3 rfl) ?_
    refine lv_i2l (v := v.toInt64) hx hb dX4_write_8 rfl ?_
    refine lv_lconst (v := 0) hx hb dX4_write_9 (by decide) ?_
    refine lv_ldc2 hx hb S.2.2.2.1 (S.2.2.2.2 _ (List.mem_cons_of_mem _ mw_cn_X4_116)) dX4_write_10 ?_
    refine mt_cS1 (As := [.long (v.toInt64), .long (0), .long (9999)]) (rest := []) S ps_X4_in mw_ml_X4_50 (k_X4_in l hlt g z ad lc mc bc N G o d h6 h8 hb6 v.toInt64 0 9999) hC hW hS rfl hl.1 rfl (Nat.le_of_ble_eq_true rfl) dX4_write_13 ⟨(Nat.le_of_ble_eq_true rfl), (Nat.le_of_ble_eq_true rfl)⟩ ⟨(Nat.le_of_ble_eq_true rfl), (Nat.le_of_ble_eq_true rfl)⟩ rfl (fun H locs hW hS => ?_)
    refine mt_te (y := c_inI v 0 9999) (in_s (lo := 0) (hi := 9999)) ?_
    refine lv_if_eq (tgt := 26) hx hb dX4_write_16 (by decide) (fun c_2 => ?_) (fun c_2 => ?_)
    · refine lv_aload_n hx hb dX4_write_26 rfl (lv_at hl 0 rfl) ?_
      refine lv_iconst (v := 1) hx hb dX4_write_27 (by decide) ?_
      refine mt_put S iw_X4 tyX4 tyX4_ok nmX4 hC hW hS wc_200 rfl 15 (by decide) mw_fl_X4_44 rfl rfl rfl rfl (Nat.le_of_ble_eq_true rfl) dX4_write_28 (fun H locs hW hS => ?_)
      have hW := hW.to (w1 := mt_wc g ad lc mc bc (mt_gu N 200 15 1) G o d) (wc_sett (by decide))
      refine lv_iconst (v := -1) hx hb dX4_write_31 (by decide) ?_
      have hW := hW.to (w1 := mt_wc g ad lc mc bc (c_X4_write_N lc mc bc N G x y v) (c_X4_write_G lc mc bc N G x y v) o d) (by rw [c_X4_write_N, if_neg c_1, if_pos c_2, c_X4_write_G, if_neg c_1, if_pos c_2])
      exact mt_ri S hr hk hW hS (by rw [c_X4_write, if_neg c_1, if_pos c_2]) (Nat.le_of_ble_eq_true rfl) (Nat.le_of_ble_eq_true rfl) dX4_write_32
    · refine lv_iload_n hx hb dX4_write_19 rfl (lv_at hl 2 rfl) ?_
      refine mt_cS1 (As := [.int (y)]) (rest := []) S ps_X4_isPath mw_ml_X4_70 (k_X4_isPath l hlt g z ad lc mc bc N G o d h6 h8 hb6 y) hC hW hS rfl hl.1 rfl (Nat.le_of_ble_eq_true rfl) dX4_write_20 ⟨(Nat.le_of_ble_eq_true rfl), (Nat.le_of_ble_eq_true rfl)⟩ ⟨(Nat.le_of_ble_eq_true rfl), (Nat.le_of_ble_eq_true rfl)⟩ rfl (fun H locs hW hS => ?_)
      refine lv_if_ne (tgt := 33) hx hb dX4_write_23 (by decide) (fun c_3 => ?_) (fun c_3 => ?_)
      · refine lv_aload_n hx hb dX4_write_33 rfl (lv_at hl 0 rfl) ?_
        refine lv_iload_n hx hb dX4_write_34 rfl (lv_at hl 2 rfl) ?_
        refine mt_cV1 (As := [.int (y)]) (rest := []) S pv_X4_canWrite mw_ml_X4_118 (k_X4_canWrite l hlt g z ad lc mc bc N G o d h6 h8 hb6 y (by repeat (first | exact hM | exact hP | apply MI_t)) (isP_of c_3)) hC hW hS wc_200 rfl rfl rfl hl.1 rfl (Nat.le_of_ble_eq_true rfl) dX4_write_35 ⟨(Nat.le_of_ble_eq_true rfl), (Nat.le_of_ble_eq_true rfl)⟩ ⟨(Nat.le_of_ble_eq_true rfl), (Nat.le_of_ble_eq_true rfl)⟩ rfl (fun H locs hW hS => ?_)
        refine lv_if_ne (tgt := 48) hx hb dX4_write_38 (by decide) (fun c_4 => ?_) (fun c_4 => ?_)
        · refine lv_aload_n hx hb dX4_write_48 rfl (lv_at hl 0 rfl) ?_
          refine lv_iload_n hx hb dX4_write_49 rfl (lv_at hl 1 rfl) ?_
          refine lv_aload_n hx hb dX4_write_50 rfl (lv_at hl 0 rfl) ?_
          refine lv_iload_n hx hb dX4_write_51 rfl (lv_at hl 2 rfl) ?_
          refine mt_cV1 (As := [.int (y)]) (rest := [.int (x), .ref (ad (200))]) S pv_X4_target mw_ml_X4_104 (k_X4_target l hlt g z ad lc mc bc N G o d h6 h8 hb6 y (by repeat (first | exact hM | exact hP | apply MI_t)) (isP_of c_3) (cw_s c_4)) hC hW hS wc_200 rfl rfl rfl hl.1 rfl (Nat.le_of_ble_eq_true rfl) dX4_write_52 ⟨(Nat.le_of_ble_eq_true rfl), (Nat.le_of_ble_eq_true rfl)⟩ ⟨(Nat.le_of_ble_eq_true rfl), (Nat.le_of_ble_eq_true rfl)⟩ rfl (fun H locs hW hS => ?_)
          refine mt_cV1 (As := [.int (x), .int (c_X4_target lc mc bc N G y)]) (rest := []) S pv_X4_used mw_ml_X4_121 (k_X4_used l hlt g z ad lc mc bc N G o d h6 h8 hb6 x (c_X4_target lc mc bc N G y)) hC hW hS wc_200 rfl rfl rfl hl.1 rfl (Nat.le_of_ble_eq_true rfl) dX4_write_55 ⟨(Nat.le_of_ble_eq_true rfl), (Nat.le_of_ble_eq_true rfl)⟩ ⟨(Nat.le_of_ble_eq_true rfl), (Nat.le_of_ble_eq_true rfl)⟩ rfl (fun H locs hW hS => ?_)
          refine lv_iload_n hx hb dX4_write_58 rfl (lv_at hl 3 rfl) ?_
          refine lv_iadd hx hb dX4_write_59 ?_
          refine lv_istore (lv' := [(4, .int ((c_X4_used lc mc bc N G x (c_X4_target lc mc bc N G y)) + v)), (0, .ref (ad (200))), (1, .int (x)), (2, .int (y)), (3, .int (v))]) hx hb dX4_write_60 hl (by decide) rfl (fun ls hl => ?_)
          refine lv_aload_n hx hb dX4_write_62 rfl (lv_at hl 1 rfl) ?_
          refine lv_iload hx hb dX4_write_63 (lv_at hl 0 rfl) ?_
          refine lv_aload_n hx hb dX4_write_65 rfl (lv_at hl 1 rfl) ?_
          refine mt_get S iw_X4 hC hW wc_200 rfl 10 (by decide) mw_fl_X4_35 rfl rfl dX4_write_66 ?_
          refine lv_iload_n hx hb dX4_write_69 rfl (lv_at hl 2 rfl) ?_
          refine wk_iald S hC hW ar_211 (ow_in c_1) dX4_write_70 ?_
          refine lv_icmp_le (tgt := 78) hx hb dX4_write_71 (by decide) (fun c_5 => ?_) (fun c_5 => ?_)
          · refine lv_iconst (v := 0) hx hb dX4_write_78 (by decide) ?_
            refine mt_put S iw_X4 tyX4 tyX4_ok nmX4 hC hW hS wc_200 rfl 15 (by decide) mw_fl_X4_44 rfl rfl rfl rfl (Nat.le_of_ble_eq_true rfl) dX4_write_79 (fun H locs hW hS => ?_)
            have hW := hW.to (w1 := mt_wc g ad lc mc bc (mt_gu N 200 15 0) G o d) (wc_sett (by decide))
            refine lv_aload_n hx hb dX4_write_82 rfl (lv_at hl 1 rfl) ?_
            refine mt_get S iw_X4 hC hW wc_200 rfl 15 (by decide) mw_fl_X4_44 rfl rfl dX4_write_83 ?_
            refine mt_te (y := 0) rfl ?_
            refine lv_if_le (tgt := 91) hx hb dX4_write_86 (by decide) (fun c_6 => ?_) (fun c_6 => absurd (by decide) c_6)
            refine lv_aload_n hx hb dX4_write_91 rfl (lv_at hl 1 rfl) ?_
            refine lv_iload_n hx hb dX4_write_92 rfl (lv_at hl 3 rfl) ?_
            refine lv_iconst (v := 1) hx hb dX4_write_93 (by decide) ?_
            refine lv_iload_n hx hb dX4_write_94 rfl (lv_at hl 2 rfl) ?_
            refine lv_iload_n hx hb dX4_write_95 rfl (lv_at hl 4 rfl) ?_
            refine mt_cVv (As := [.int (y), .int (1), .int (x), .int (v)]) (rest := []) S pv_X4_puts mw_ml_X4_124 (k_X4_puts l hlt g z ad lc mc bc (mt_gu N 200 15 0) G o d h6 h8 hb6 y 1 x v (by repeat (first | exact hM | exact hP | apply MI_t)) (isP_of c_3) (cw_s c_4)) hC hW hS wc_200 rfl rfl rfl hl.1 rfl (Nat.le_of_ble_eq_true rfl) dX4_write_96 ⟨(Nat.le_of_ble_eq_true rfl), (Nat.le_of_ble_eq_true rfl)⟩ ⟨(Nat.le_of_ble_eq_true rfl), (Nat.le_of_ble_eq_true rfl)⟩ rfl (fun H locs hW hS => ?_)
            refine lv_iload hx hb dX4_write_99 (lv_at hl 0 rfl) ?_
            have hW := hW.to (w1 := mt_wc g ad lc mc bc (c_X4_write_N lc mc bc N G x y v) (c_X4_write_G lc mc bc N G x y v) o d) (by rw [c_X4_write_N, if_neg c_1, if_neg c_2, if_neg c_3, if_neg c_4, if_pos c_5, c_X4_write_G, if_neg c_1, if_neg c_2, if_neg c_3, if_neg c_4, if_pos c_5])
            exact mt_ri S hr hk hW hS (by rw [c_X4_write, if_neg c_1, if_neg c_2, if_neg c_3, if_neg c_4, if_pos c_5]) (Nat.le_of_ble_eq_true rfl) (Nat.le_of_ble_eq_true rfl) dX4_write_101
          · refine lv_iconst (v := 3) hx hb dX4_write_74 (by decide) ?_
            refine lv_goto (tgt := 79) hx hb dX4_write_75 (by decide) ?_
            refine mt_put S iw_X4 tyX4 tyX4_ok nmX4 hC hW hS wc_200 rfl 15 (by decide) mw_fl_X4_44 rfl rfl rfl rfl (Nat.le_of_ble_eq_true rfl) dX4_write_79 (fun H locs hW hS => ?_)
            have hW := hW.to (w1 := mt_wc g ad lc mc bc (mt_gu N 200 15 3) G o d) (wc_sett (by decide))
            refine lv_aload_n hx hb dX4_write_82 rfl (lv_at hl 1 rfl) ?_
            refine mt_get S iw_X4 hC hW wc_200 rfl 15 (by decide) mw_fl_X4_44 rfl rfl dX4_write_83 ?_
            refine mt_te (y := 3) rfl ?_
            refine lv_if_le (tgt := 91) hx hb dX4_write_86 (by decide) (fun c_7 => absurd c_7 (by decide)) (fun c_7 => ?_)
            refine lv_iconst (v := -1) hx hb dX4_write_89 (by decide) ?_
            have hW := hW.to (w1 := mt_wc g ad lc mc bc (c_X4_write_N lc mc bc N G x y v) (c_X4_write_G lc mc bc N G x y v) o d) (by rw [c_X4_write_N, if_neg c_1, if_neg c_2, if_neg c_3, if_neg c_4, if_neg c_5, c_X4_write_G, if_neg c_1, if_neg c_2, if_neg c_3, if_neg c_4, if_neg c_5])
            exact mt_ri S hr hk hW hS (by rw [c_X4_write, if_neg c_1, if_neg c_2, if_neg c_3, if_neg c_4, if_neg c_5]) (Nat.le_of_ble_eq_true rfl) (Nat.le_of_ble_eq_true rfl) dX4_write_90
        · refine lv_aload_n hx hb dX4_write_41 rfl (lv_at hl 0 rfl) ?_
          refine lv_iconst (v := 2) hx hb dX4_write_42 (by decide) ?_
          refine mt_put S iw_X4 tyX4 tyX4_ok nmX4 hC hW hS wc_200 rfl 15 (by decide) mw_fl_X4_44 rfl rfl rfl rfl (Nat.le_of_ble_eq_true rfl) dX4_write_43 (fun H locs hW hS => ?_)
          have hW := hW.to (w1 := mt_wc g ad lc mc bc (mt_gu N 200 15 2) G o d) (wc_sett (by decide))
          refine lv_iconst (v := -1) hx hb dX4_write_46 (by decide) ?_
          have hW := hW.to (w1 := mt_wc g ad lc mc bc (c_X4_write_N lc mc bc N G x y v) (c_X4_write_G lc mc bc N G x y v) o d) (by rw [c_X4_write_N, if_neg c_1, if_neg c_2, if_neg c_3, if_pos c_4, c_X4_write_G, if_neg c_1, if_neg c_2, if_neg c_3, if_pos c_4])
          exact mt_ri S hr hk hW hS (by rw [c_X4_write, if_neg c_1, if_neg c_2, if_neg c_3, if_pos c_4]) (Nat.le_of_ble_eq_true rfl) (Nat.le_of_ble_eq_true rfl) dX4_write_47
      · refine lv_aload_n hx hb dX4_write_26 rfl (lv_at hl 0 rfl) ?_
        refine lv_iconst (v := 1) hx hb dX4_write_27 (by decide) ?_
        refine mt_put S iw_X4 tyX4 tyX4_ok nmX4 hC hW hS wc_200 rfl 15 (by decide) mw_fl_X4_44 rfl rfl rfl rfl (Nat.le_of_ble_eq_true rfl) dX4_write_28 (fun H locs hW hS => ?_)
        have hW := hW.to (w1 := mt_wc g ad lc mc bc (mt_gu N 200 15 1) G o d) (wc_sett (by decide))
        refine lv_iconst (v := -1) hx hb dX4_write_31 (by decide) ?_
        have hW := hW.to (w1 := mt_wc g ad lc mc bc (c_X4_write_N lc mc bc N G x y v) (c_X4_write_G lc mc bc N G x y v) o d) (by rw [c_X4_write_N, if_neg c_1, if_neg c_2, if_pos c_3, c_X4_write_G, if_neg c_1, if_neg c_2, if_pos c_3])
        exact mt_ri S hr hk hW hS (by rw [c_X4_write, if_neg c_1, if_neg c_2, if_pos c_3]) (Nat.le_of_ble_eq_true rfl) (Nat.le_of_ble_eq_true rfl) dX4_write_32
def c_X4_link_ls (G : Nat → Nat → Int32) (x : Int32) (y : Int32) (v : Int32) : Nat → Int32
  | 0 => 0
  | k + 1 => if (G 201 k) = 2 then ((c_X4_link_ls G x y v k) + 1) else ((c_X4_link_ls G x y v k) + 0)
def c_X4_link (lc mc bc : Nat) (N G : Nat → Nat → Int32) (x : Int32) (y : Int32) (v : Int32) : Int32 := if (c_X4_isOwner x) = 0 then (-1) else (if (c_X4_isPath y) = 0 then (-1) else (if (c_X4_isPath v) = 0 then (-1) else (if (c_X4_canWrite lc mc bc N G y) = 0 then (-1) else (c_X4_link_ls (c_X4_puts_G lc mc bc (mt_gu N 200 15 0) G y 2 x v) x y v 2046))))
def c_X4_link_G (lc mc bc : Nat) (N G : Nat → Nat → Int32) (x : Int32) (y : Int32) (v : Int32) : Nat → Nat → Int32 := if (c_X4_isOwner x) = 0 then G else (if (c_X4_isPath y) = 0 then G else (if (c_X4_isPath v) = 0 then G else (if (c_X4_canWrite lc mc bc N G y) = 0 then G else (c_X4_puts_G lc mc bc (mt_gu N 200 15 0) G y 2 x v))))
def c_X4_link_N (lc mc bc : Nat) (N G : Nat → Nat → Int32) (x : Int32) (y : Int32) (v : Int32) : Nat → Nat → Int32 := if (c_X4_isOwner x) = 0 then (mt_gu N 200 15 1) else (if (c_X4_isPath y) = 0 then (mt_gu N 200 15 1) else (if (c_X4_isPath v) = 0 then (mt_gu N 200 15 1) else (if (c_X4_canWrite lc mc bc N G y) = 0 then (mt_gu N 200 15 2) else (c_X4_puts_N lc mc bc (mt_gu N 200 15 0) G y 2 x v))))
set_option maxRecDepth 100000 in
set_option maxHeartbeats 4000000 in
theorem k_X4_link (l : Launch) (hlt : l.stackTraces = false) (g : mt_G) (z : Nat) (ad : Nat → Nat) (lc mc bc : Nat) (N G : Nat → Nat → Int32) (o : Nat → Int64) (d : mt_D) (h6 : lc ≤ 6) (h8 : mc ≤ 8) (hb6 : bc ≤ 6) (x : Int32) (y : Int32) (v : Int32) (hM : MI N G) : mt_K l g z yX4_link cX4_link 6 (some .int) 5 119 0 0 [.ref (ad (200)), .int x, .int y, .int v] (mt_wc g ad lc mc bc N G o d) ad (.inr (some (.int (c_X4_link lc mc bc N G x y v)))) (mt_wc g ad lc mc bc (c_X4_link_N lc mc bc N G x y v) (c_X4_link_G lc mc bc N G x y v) o d) ad := by
  refine mt_ofW (by decide +kernel) (Nat.le_of_ble_eq_true rfl) ?_
  intro p e s m args below meth c S hr9 hk hnm hout hC hW hS ls hl
  have hr := hr9
  have hx := S.1
  have hb := S.2.1
  have hl : lv_has ls 6 [(0, .ref (ad (200))), (1, .int (x)), (2, .int (y)), (3, .int (v))] := hl
  refine lv_iload_n hx hb dX4_link_0 rfl (lv_at hl 1 rfl) ?_
  refine mt_cS1 (As := [.int (x)]) (rest := []) S ps_X4_isOwner mw_ml_X4_113 (k_X4_isOwner l hlt g z ad lc mc bc N G o d h6 h8 hb6 x) hC hW hS rfl hl.1 rfl (Nat.le_of_ble_eq_true rfl) dX4_link_1 ⟨(Nat.le_of_ble_eq_true rfl), (Nat.le_of_ble_eq_true rfl)⟩ ⟨(Nat.le_of_ble_eq_true rfl), (Nat.le_of_ble_eq_true rfl)⟩ rfl (fun H locs hW hS => ?_)
  refine lv_if_eq (tgt := 21) hx hb dX4_link_4 (by decide) (fun c_1 => ?_) (fun c_1 => ?_)
  · refine lv_aload_n hx hb dX4_link_21 rfl (lv_at hl 0 rfl) ?_
    refine lv_iconst (v := 1) hx hb dX4_link_22 (by decide) ?_
    refine mt_put S iw_X4 tyX4 tyX4_ok nmX4 hC hW hS wc_200 rfl 15 (by decide) mw_fl_X4_44 rfl rfl rfl rfl (Nat.le_of_ble_eq_true rfl) dX4_link_23 (fun H locs hW hS => ?_)
    have hW := hW.to (w1 := mt_wc g ad lc mc bc (mt_gu N 200 15 1) G o d) (wc_sett (by decide))
    refine lv_iconst (v := -1) hx hb dX4_link_26 (by decide) ?_
    have hW := hW.to (w1 := mt_wc g ad lc mc bc (c_X4_link_N lc mc bc N G x y v) (c_X4_link_G lc mc bc N G x y v) o d) (by rw [c_X4_link_N, if_pos c_1, c_X4_link_G, if_pos c_1])
    exact mt_ri S hr hk hW hS (by rw [c_X4_link, if_pos c_1]) (Nat.le_of_ble_eq_true rfl) (Nat.le_of_ble_eq_true rfl) dX4_link_27
  · refine lv_iload_n hx hb dX4_link_7 rfl (lv_at hl 2 rfl) ?_
    refine mt_cS1 (As := [.int (y)]) (rest := []) S ps_X4_isPath mw_ml_X4_70 (k_X4_isPath l hlt g z ad lc mc bc N G o d h6 h8 hb6 y) hC hW hS rfl hl.1 rfl (Nat.le_of_ble_eq_true rfl) dX4_link_8 ⟨(Nat.le_of_ble_eq_true rfl), (Nat.le_of_ble_eq_true rfl)⟩ ⟨(Nat.le_of_ble_eq_true rfl), (Nat.le_of_ble_eq_true rfl)⟩ rfl (fun H locs hW hS => ?_)
    refine lv_if_eq (tgt := 21) hx hb dX4_link_11 (by decide) (fun c_2 => ?_) (fun c_2 => ?_)
    · refine lv_aload_n hx hb dX4_link_21 rfl (lv_at hl 0 rfl) ?_
      refine lv_iconst (v := 1) hx hb dX4_link_22 (by decide) ?_
      refine mt_put S iw_X4 tyX4 tyX4_ok nmX4 hC hW hS wc_200 rfl 15 (by decide) mw_fl_X4_44 rfl rfl rfl rfl (Nat.le_of_ble_eq_true rfl) dX4_link_23 (fun H locs hW hS => ?_)
      have hW := hW.to (w1 := mt_wc g ad lc mc bc (mt_gu N 200 15 1) G o d) (wc_sett (by decide))
      refine lv_iconst (v := -1) hx hb dX4_link_26 (by decide) ?_
      have hW := hW.to (w1 := mt_wc g ad lc mc bc (c_X4_link_N lc mc bc N G x y v) (c_X4_link_G lc mc bc N G x y v) o d) (by rw [c_X4_link_N, if_neg c_1, if_pos c_2, c_X4_link_G, if_neg c_1, if_pos c_2])
      exact mt_ri S hr hk hW hS (by rw [c_X4_link, if_neg c_1, if_pos c_2]) (Nat.le_of_ble_eq_true rfl) (Nat.le_of_ble_eq_true rfl) dX4_link_27
    · refine lv_iload_n hx hb dX4_link_14 rfl (lv_at hl 3 rfl) ?_
      refine mt_cS1 (As := [.int (v)]) (rest := []) S ps_X4_isPath mw_ml_X4_70 (k_X4_isPath l hlt g z ad lc mc bc N G o d h6 h8 hb6 v) hC hW hS rfl hl.1 rfl (Nat.le_of_ble_eq_true rfl) dX4_link_15 ⟨(Nat.le_of_ble_eq_true rfl), (Nat.le_of_ble_eq_true rfl)⟩ ⟨(Nat.le_of_ble_eq_true rfl), (Nat.le_of_ble_eq_true rfl)⟩ rfl (fun H locs hW hS => ?_)
      refine lv_if_ne (tgt := 28) hx hb dX4_link_18 (by decide) (fun c_3 => ?_) (fun c_3 => ?_)
      · refine lv_aload_n hx hb dX4_link_28 rfl (lv_at hl 0 rfl) ?_
        refine lv_aload_n hx hb dX4_link_29 rfl (lv_at hl 0 rfl) ?_
        refine lv_iload_n hx hb dX4_link_30 rfl (lv_at hl 2 rfl) ?_
        refine mt_cV1 (As := [.int (y)]) (rest := [.ref (ad (200))]) S pv_X4_canWrite mw_ml_X4_118 (k_X4_canWrite l hlt g z ad lc mc bc N G o d h6 h8 hb6 y (by repeat (first | exact hM | exact hP | apply MI_t)) (isP_of c_2)) hC hW hS wc_200 rfl rfl rfl hl.1 rfl (Nat.le_of_ble_eq_true rfl) dX4_link_31 ⟨(Nat.le_of_ble_eq_true rfl), (Nat.le_of_ble_eq_true rfl)⟩ ⟨(Nat.le_of_ble_eq_true rfl), (Nat.le_of_ble_eq_true rfl)⟩ rfl (fun H locs hW hS => ?_)
        refine lv_if_eq (tgt := 41) hx hb dX4_link_34 (by decide) (fun c_4 => ?_) (fun c_4 => ?_)
        · refine lv_iconst (v := 2) hx hb dX4_link_41 (by decide) ?_
          refine mt_put S iw_X4 tyX4 tyX4_ok nmX4 hC hW hS wc_200 rfl 15 (by decide) mw_fl_X4_44 rfl rfl rfl rfl (Nat.le_of_ble_eq_true rfl) dX4_link_42 (fun H locs hW hS => ?_)
          have hW := hW.to (w1 := mt_wc g ad lc mc bc (mt_gu N 200 15 2) G o d) (wc_sett (by decide))
          refine lv_aload_n hx hb dX4_link_45 rfl (lv_at hl 0 rfl) ?_
          refine mt_get S iw_X4 hC hW wc_200 rfl 15 (by decide) mw_fl_X4_44 rfl rfl dX4_link_46 ?_
          refine mt_te (y := 2) rfl ?_
          refine lv_if_le (tgt := 54) hx hb dX4_link_49 (by decide) (fun c_5 => absurd c_5 (by decide)) (fun c_5 => ?_)
          refine lv_iconst (v := -1) hx hb dX4_link_52 (by decide) ?_
          have hW := hW.to (w1 := mt_wc g ad lc mc bc (c_X4_link_N lc mc bc N G x y v) (c_X4_link_G lc mc bc N G x y v) o d) (by rw [c_X4_link_N, if_neg c_1, if_neg c_2, if_neg c_3, if_pos c_4, c_X4_link_G, if_neg c_1, if_neg c_2, if_neg c_3, if_pos c_4])
          exact mt_ri S hr hk hW hS (by rw [c_X4_link, if_neg c_1, if_neg c_2, if_neg c_3, if_pos c_4]) (Nat.le_of_ble_eq_true rfl) (Nat.le_of_ble_eq_true rfl) dX4_link_53
        · refine lv_iconst (v := 0) hx hb dX4_link_37 (by decide) ?_
          refine lv_goto (tgt := 42) hx hb dX4_link_38 (by decide) ?_
          refine mt_put S iw_X4 tyX4 tyX4_ok nmX4 hC hW hS wc_200 rfl 15 (by decide) mw_fl_X4_44 rfl rfl rfl rfl (Nat.le_of_ble_eq_true rfl) dX4_link_42 (fun H locs hW hS => ?_)
          have hW := hW.to (w1 := mt_wc g ad lc mc bc (mt_gu N 200 15 0) G o d) (wc_sett (by decide))
          refine lv_aload_n hx hb dX4_link_45 rfl (lv_at hl 0 rfl) ?_
          refine mt_get S iw_X4 hC hW wc_200 rfl 15 (by decide) mw_fl_X4_44 rfl rfl dX4_link_46 ?_
          refine mt_te (y := 0) rfl ?_
          refine lv_if_le (tgt := 54) hx hb dX4_link_49 (by decide) (fun c_6 => ?_) (fun c_6 => absurd (by decide) c_6)
          refine lv_aload_n hx hb dX4_link_54 rfl (lv_at hl 0 rfl) ?_
          refine lv_iload_n hx hb dX4_link_55 rfl (lv_at hl 2 rfl) ?_
          refine lv_iconst (v := 2) hx hb dX4_link_56 (by decide) ?_
          refine lv_iload_n hx hb dX4_link_57 rfl (lv_at hl 1 rfl) ?_
          refine lv_iload_n hx hb dX4_link_58 rfl (lv_at hl 3 rfl) ?_
          refine mt_cVv (As := [.int (y), .int (2), .int (x), .int (v)]) (rest := []) S pv_X4_puts mw_ml_X4_124 (k_X4_puts l hlt g z ad lc mc bc (mt_gu N 200 15 0) G o d h6 h8 hb6 y 2 x v (by repeat (first | exact hM | exact hP | apply MI_t)) (isP_of c_2) (cw_s c_4)) hC hW hS wc_200 rfl rfl rfl hl.1 rfl (Nat.le_of_ble_eq_true rfl) dX4_link_59 ⟨(Nat.le_of_ble_eq_true rfl), (Nat.le_of_ble_eq_true rfl)⟩ ⟨(Nat.le_of_ble_eq_true rfl), (Nat.le_of_ble_eq_true rfl)⟩ rfl (fun H locs hW hS => ?_)
          refine lv_iconst (v := 0) hx hb dX4_link_62 (by decide) ?_
          refine lv_istore (lv' := [(4, .int (0)), (0, .ref (ad (200))), (1, .int (x)), (2, .int (y)), (3, .int (v))]) hx hb dX4_link_63 hl (by decide) rfl (fun ls hl => ?_)
          refine lv_iconst (v := 0) hx hb dX4_link_65 (by decide) ?_
          refine lv_istore (lv' := [(5, .int (0)), (4, .int (0)), (0, .ref (ad (200))), (1, .int (x)), (2, .int (y)), (3, .int (v))]) hx hb dX4_link_66 hl (by decide) rfl (fun ls hl => ?_)
          have hl : lv_has ls 6 [(5, .int (nI 0)), (4, .int (c_X4_link_ls (c_X4_puts_G lc mc bc (mt_gu N 200 15 0) G y 2 x v) x y v 0)), (0, .ref (ad (200))), (1, .int (x)), (2, .int (y)), (3, .int (v))] := lv_sub hl [0, 1, 2, 3, 4, 5] rfl
          refine lp_up 2046 (fun k => mt_wc g ad lc mc bc (c_X4_puts_N lc mc bc (mt_gu N 200 15 0) G y 2 x v) (c_X4_puts_G lc mc bc (mt_gu N 200 15 0) G y 2 x v) o d) (fun k => [(5, .int (nI k)), (4, .int (c_X4_link_ls (c_X4_puts_G lc mc bc (mt_gu N 200 15 0) G y 2 x v) x y v k)), (0, .ref (ad (200))), (1, .int (x)), (2, .int (y)), (3, .int (v))]) (fun _ => True) 0 (by omega) trivial hW hS hl (fun H locs ls hP hW hS hl => ?_) (fun k H locs ls hk0 hkn hP hW hS hl ih => ?_)
          · have hW : mt_W g z (mt_wc g ad lc mc bc (c_X4_puts_N lc mc bc (mt_gu N 200 15 0) G y 2 x v) (c_X4_puts_G lc mc bc (mt_gu N 200 15 0) G y 2 x v) o d) ad _ := hW
            have hl : lv_has ls 6 [(5, .int (nI 2046)), (4, .int (c_X4_link_ls (c_X4_puts_G lc mc bc (mt_gu N 200 15 0) G y 2 x v) x y v 2046)), (0, .ref (ad (200))), (1, .int (x)), (2, .int (y)), (3, .int (v))] := hl
            refine lv_iload hx hb dX4_link_68 (lv_at hl 0 rfl) ?_
            refine lv_sipush (v := 2046) hx hb dX4_link_70 (by decide) ?_
            refine lv_icmp_ge (tgt := 103) hx hb dX4_link_73 (by decide) (fun c_7 => ?_) (fun c_7 => absurd (nI_le (a := 2046) (b := 2046) (Nat.le_refl _) (by omega)) c_7)
            refine lv_iload hx hb dX4_link_103 (lv_at hl 1 rfl) ?_
            have hW := hW.to (w1 := mt_wc g ad lc mc bc (c_X4_link_N lc mc bc N G x y v) (c_X4_link_G lc mc bc N G x y v) o d) (by rw [c_X4_link_N, if_neg c_1, if_neg c_2, if_neg c_3, if_neg c_4, c_X4_link_G, if_neg c_1, if_neg c_2, if_neg c_3, if_neg c_4])
            exact mt_ri S hr hk hW hS (by rw [c_X4_link, if_neg c_1, if_neg c_2, if_neg c_3, if_neg c_4]) (Nat.le_of_ble_eq_true rfl) (Nat.le_of_ble_eq_true rfl) dX4_link_105
          · have hW : mt_W g z (mt_wc g ad lc mc bc (c_X4_puts_N lc mc bc (mt_gu N 200 15 0) G y 2 x v) (c_X4_puts_G lc mc bc (mt_gu N 200 15 0) G y 2 x v) o d) ad _ := hW
            have hl : lv_has ls 6 [(5, .int (nI k)), (4, .int (c_X4_link_ls (c_X4_puts_G lc mc bc (mt_gu N 200 15 0) G y 2 x v) x y v k)), (0, .ref (ad (200))), (1, .int (x)), (2, .int (y)), (3, .int (v))] := hl
            refine lv_iload hx hb dX4_link_68 (lv_at hl 0 rfl) ?_
            refine lv_sipush (v := 2046) hx hb dX4_link_70 (by decide) ?_
            refine lv_icmp_ge (tgt := 103) hx hb dX4_link_73 (by decide) (fun c_8 => absurd c_8 (nI_ge (a := k) (b := 2046) hkn (by omega))) (fun c_8 => ?_)
            refine lv_iload hx hb dX4_link_76 (lv_at hl 1 rfl) ?_
            refine lv_aload_n hx hb dX4_link_78 rfl (lv_at hl 2 rfl) ?_
            refine mt_get S iw_X4 hC hW wc_200 rfl 0 (by decide) mw_fl_X4_7 rfl rfl dX4_link_79 ?_
            refine lv_iload hx hb dX4_link_82 (lv_at hl 0 rfl) ?_
            refine wk_ialn S hC hW ar_201 k rfl (by omega) (by decide) dX4_link_84 ?_
            refine lv_iconst (v := 2) hx hb dX4_link_85 (by decide) ?_
            refine lv_icmp_ne (tgt := 93) hx hb dX4_link_86 (by decide) (fun c_9 => ?_) (fun c_9 => ?_)
            · refine lv_iconst (v := 0) hx hb dX4_link_93 (by decide) ?_
              refine lv_iadd hx hb dX4_link_94 ?_
              refine lv_istore (lv' := [(4, .int ((c_X4_link_ls (c_X4_puts_G lc mc bc (mt_gu N 200 15 0) G y 2 x v) x y v k) + 0)), (5, .int (nI k)), (0, .ref (ad (200))), (1, .int (x)), (2, .int (y)), (3, .int (v))]) hx hb dX4_link_95 hl (by decide) rfl (fun ls hl => ?_)
              refine lv_iinc (v := nI (k + 1)) (lv' := [(5, .int (nI (k + 1))), (4, .int ((c_X4_link_ls (c_X4_puts_G lc mc bc (mt_gu N 200 15 0) G y 2 x v) x y v k) + 0)), (0, .ref (ad (200))), (1, .int (x)), (2, .int (y)), (3, .int (v))]) hx hb dX4_link_97 hl (k := 1) rfl (nI_1 _) (by decide) rfl (fun ls hl => ?_)
              refine lv_goto (tgt := 68) hx hb dX4_link_100 (by decide) ?_
              have hl : lv_has ls 6 [(5, .int (nI (k + 1))), (4, .int (c_X4_link_ls (c_X4_puts_G lc mc bc (mt_gu N 200 15 0) G y 2 x v) x y v (k + 1))), (0, .ref (ad (200))), (1, .int (x)), (2, .int (y)), (3, .int (v))] := by rw [show c_X4_link_ls (c_X4_puts_G lc mc bc (mt_gu N 200 15 0) G y 2 x v) x y v (k + 1) = (c_X4_link_ls (c_X4_puts_G lc mc bc (mt_gu N 200 15 0) G y 2 x v) x y v k) + 0 from (by rw [c_X4_link_ls, if_neg c_9])]; exact lv_sub hl [0, 1, 2, 3, 4, 5] rfl
              exact ih _ _ _ trivial hW hS hl
            · refine lv_iconst (v := 1) hx hb dX4_link_89 (by decide) ?_
              refine lv_goto (tgt := 94) hx hb dX4_link_90 (by decide) ?_
              refine lv_iadd hx hb dX4_link_94 ?_
              refine lv_istore (lv' := [(4, .int ((c_X4_link_ls (c_X4_puts_G lc mc bc (mt_gu N 200 15 0) G y 2 x v) x y v k) + 1)), (5, .int (nI k)), (0, .ref (ad (200))), (1, .int (x)), (2, .int (y)), (3, .int (v))]) hx hb dX4_link_95 hl (by decide) rfl (fun ls hl => ?_)
              refine lv_iinc (v := nI (k + 1)) (lv' := [(5, .int (nI (k + 1))), (4, .int ((c_X4_link_ls (c_X4_puts_G lc mc bc (mt_gu N 200 15 0) G y 2 x v) x y v k) + 1)), (0, .ref (ad (200))), (1, .int (x)), (2, .int (y)), (3, .int (v))]) hx hb dX4_link_97 hl (k := 1) rfl (nI_1 _) (by decide) rfl (fun ls hl => ?_)
              refine lv_goto (tgt := 68) hx hb dX4_link_100 (by decide) ?_
              have hl : lv_has ls 6 [(5, .int (nI (k + 1))), (4, .int (c_X4_link_ls (c_X4_puts_G lc mc bc (mt_gu N 200 15 0) G y 2 x v) x y v (k + 1))), (0, .ref (ad (200))), (1, .int (x)), (2, .int (y)), (3, .int (v))] := by rw [show c_X4_link_ls (c_X4_puts_G lc mc bc (mt_gu N 200 15 0) G y 2 x v) x y v (k + 1) = (c_X4_link_ls (c_X4_puts_G lc mc bc (mt_gu N 200 15 0) G y 2 x v) x y v k) + 1 from (by rw [c_X4_link_ls, if_pos c_9])]; exact lv_sub hl [0, 1, 2, 3, 4, 5] rfl
              exact ih _ _ _ trivial hW hS hl
      · refine lv_aload_n hx hb dX4_link_21 rfl (lv_at hl 0 rfl) ?_
        refine lv_iconst (v := 1) hx hb dX4_link_22 (by decide) ?_
        refine mt_put S iw_X4 tyX4 tyX4_ok nmX4 hC hW hS wc_200 rfl 15 (by decide) mw_fl_X4_44 rfl rfl rfl rfl (Nat.le_of_ble_eq_true rfl) dX4_link_23 (fun H locs hW hS => ?_)
        have hW := hW.to (w1 := mt_wc g ad lc mc bc (mt_gu N 200 15 1) G o d) (wc_sett (by decide))
        refine lv_iconst (v := -1) hx hb dX4_link_26 (by decide) ?_
        have hW := hW.to (w1 := mt_wc g ad lc mc bc (c_X4_link_N lc mc bc N G x y v) (c_X4_link_G lc mc bc N G x y v) o d) (by rw [c_X4_link_N, if_neg c_1, if_neg c_2, if_pos c_3, c_X4_link_G, if_neg c_1, if_neg c_2, if_pos c_3])
        exact mt_ri S hr hk hW hS (by rw [c_X4_link, if_neg c_1, if_neg c_2, if_pos c_3]) (Nat.le_of_ble_eq_true rfl) (Nat.le_of_ble_eq_true rfl) dX4_link_27
def c_X4_remove (lc mc bc : Nat) (N G : Nat → Nat → Int32) (x : Int32) : Int32 := if c_X4_isPath x = 0 then (-1) else (if (c_X4_shown lc mc bc N G x) = (-1) then (-1) else (if (G 201 (c_X4_shown lc mc bc N G x).toNatClampNeg) = 1 then (if (G 207 (c_X4_servedBy lc mc bc N G x).toNatClampNeg) = (-1) then (G 203 (c_X4_shown lc mc bc N G x).toNatClampNeg) else (if (G 201 ((341 * (G 206 (c_X4_servedBy lc mc bc N G x).toNatClampNeg)) + (c_X4_rank (c_X4_rest x (G 205 (c_X4_servedBy lc mc bc N G x).toNatClampNeg)))).toNatClampNeg) = 1 then (G 203 (c_X4_shown lc mc bc N G x).toNatClampNeg) else (if (G 201 ((341 * (G 206 (c_X4_servedBy lc mc bc N G x).toNatClampNeg)) + (c_X4_rank (c_X4_rest x (G 205 (c_X4_servedBy lc mc bc N G x).toNatClampNeg)))).toNatClampNeg) = 2 then (G 203 (c_X4_shown lc mc bc N G x).toNatClampNeg) else (G 203 (c_X4_shown lc mc bc N G x).toNatClampNeg)))) else (if (G 207 (c_X4_servedBy lc mc bc N G x).toNatClampNeg) = (-1) then 0 else (if (G 201 ((341 * (G 206 (c_X4_servedBy lc mc bc N G x).toNatClampNeg)) + (c_X4_rank (c_X4_rest x (G 205 (c_X4_servedBy lc mc bc N G x).toNatClampNeg)))).toNatClampNeg) = 1 then 0 else (if (G 201 ((341 * (G 206 (c_X4_servedBy lc mc bc N G x).toNatClampNeg)) + (c_X4_rank (c_X4_rest x (G 205 (c_X4_servedBy lc mc bc N G x).toNatClampNeg)))).toNatClampNeg) = 2 then 0 else 0)))))
def c_X4_remove_G (lc mc bc : Nat) (N G : Nat → Nat → Int32) (x : Int32) : Nat → Nat → Int32 := if c_X4_isPath x = 0 then G else (if (c_X4_shown lc mc bc N G x) = (-1) then G else (if (G 201 (c_X4_shown lc mc bc N G x).toNatClampNeg) = 1 then (if (G 207 (c_X4_servedBy lc mc bc N G x).toNatClampNeg) = (-1) then (mt_gu G 201 (c_X4_target lc mc bc N G x).toNatClampNeg 0) else (if (G 201 ((341 * (G 206 (c_X4_servedBy lc mc bc N G x).toNatClampNeg)) + (c_X4_rank (c_X4_rest x (G 205 (c_X4_servedBy lc mc bc N G x).toNatClampNeg)))).toNatClampNeg) = 1 then (mt_gu G 201 (c_X4_target lc mc bc N G x).toNatClampNeg 3) else (if (G 201 ((341 * (G 206 (c_X4_servedBy lc mc bc N G x).toNatClampNeg)) + (c_X4_rank (c_X4_rest x (G 205 (c_X4_servedBy lc mc bc N G x).toNatClampNeg)))).toNatClampNeg) = 2 then (mt_gu G 201 (c_X4_target lc mc bc N G x).toNatClampNeg 3) else (mt_gu G 201 (c_X4_target lc mc bc N G x).toNatClampNeg 0)))) else (if (G 207 (c_X4_servedBy lc mc bc N G x).toNatClampNeg) = (-1) then (mt_gu G 201 (c_X4_target lc mc bc N G x).toNatClampNeg 0) else (if (G 201 ((341 * (G 206 (c_X4_servedBy lc mc bc N G x).toNatClampNeg)) + (c_X4_rank (c_X4_rest x (G 205 (c_X4_servedBy lc mc bc N G x).toNatClampNeg)))).toNatClampNeg) = 1 then (mt_gu G 201 (c_X4_target lc mc bc N G x).toNatClampNeg 3) else (if (G 201 ((341 * (G 206 (c_X4_servedBy lc mc bc N G x).toNatClampNeg)) + (c_X4_rank (c_X4_rest x (G 205 (c_X4_servedBy lc mc bc N G x).toNatClampNeg)))).toNatClampNeg) = 2 then (mt_gu G 201 (c_X4_target lc mc bc N G x).toNatClampNeg 3) else (mt_gu G 201 (c_X4_target lc mc bc N G x).toNatClampNeg 0))))))
def c_X4_remove_N (lc mc bc : Nat) (N G : Nat → Nat → Int32) (x : Int32) : Nat → Nat → Int32 := if c_X4_isPath x = 0 then (mt_gu N 200 15 1) else (if (c_X4_shown lc mc bc N G x) = (-1) then (mt_gu N 200 15 2) else (if (G 201 (c_X4_shown lc mc bc N G x).toNatClampNeg) = 1 then (if (G 207 (c_X4_servedBy lc mc bc N G x).toNatClampNeg) = (-1) then (mt_gu N 200 15 0) else (if (G 201 ((341 * (G 206 (c_X4_servedBy lc mc bc N G x).toNatClampNeg)) + (c_X4_rank (c_X4_rest x (G 205 (c_X4_servedBy lc mc bc N G x).toNatClampNeg)))).toNatClampNeg) = 1 then (mt_gu N 200 15 0) else (if (G 201 ((341 * (G 206 (c_X4_servedBy lc mc bc N G x).toNatClampNeg)) + (c_X4_rank (c_X4_rest x (G 205 (c_X4_servedBy lc mc bc N G x).toNatClampNeg)))).toNatClampNeg) = 2 then (mt_gu N 200 15 0) else (mt_gu N 200 15 0)))) else (if (G 207 (c_X4_servedBy lc mc bc N G x).toNatClampNeg) = (-1) then (mt_gu N 200 15 0) else (if (G 201 ((341 * (G 206 (c_X4_servedBy lc mc bc N G x).toNatClampNeg)) + (c_X4_rank (c_X4_rest x (G 205 (c_X4_servedBy lc mc bc N G x).toNatClampNeg)))).toNatClampNeg) = 1 then (mt_gu N 200 15 0) else (if (G 201 ((341 * (G 206 (c_X4_servedBy lc mc bc N G x).toNatClampNeg)) + (c_X4_rank (c_X4_rest x (G 205 (c_X4_servedBy lc mc bc N G x).toNatClampNeg)))).toNatClampNeg) = 2 then (mt_gu N 200 15 0) else (mt_gu N 200 15 0))))))
set_option maxRecDepth 100000 in
set_option maxHeartbeats 4000000 in
theorem k_X4_remove (l : Launch) (hlt : l.stackTraces = false) (g : mt_G) (z : Nat) (ad : Nat → Nat) (lc mc bc : Nat) (N G : Nat → Nat → Int32) (o : Nat → Int64) (d : mt_D) (h6 : lc ≤ 6) (h8 : mc ≤ 8) (hb6 : bc ≤ 6) (x : Int32) (hM : MI N G) : mt_K l g z yX4_remove cX4_remove 7 (some .int) 4 93 0 0 [.ref (ad (200)), .int x] (mt_wc g ad lc mc bc N G o d) ad (.inr (some (.int (c_X4_remove lc mc bc N G x)))) (mt_wc g ad lc mc bc (c_X4_remove_N lc mc bc N G x) (c_X4_remove_G lc mc bc N G x) o d) ad := by
  refine mt_ofW (by decide +kernel) (Nat.le_of_ble_eq_true rfl) ?_
  intro p e s m args below meth c S hr9 hk hnm hout hC hW hS ls hl
  have hr := hr9
  have hx := S.1
  have hb := S.2.1
  have hl : lv_has ls 7 [(0, .ref (ad (200))), (1, .int (x))] := hl
  refine lv_aload_n hx hb dX4_remove_0 rfl (lv_at hl 0 rfl) ?_
  refine lv_iload_n hx hb dX4_remove_1 rfl (lv_at hl 1 rfl) ?_
  refine mt_cV1 (As := [.int (x)]) (rest := []) S pv_X4_asks mw_ml_X4_128 (k_X4_asks l hlt g z ad lc mc bc N G o d h6 h8 hb6 x) hC hW hS wc_200 rfl rfl rfl hl.1 rfl (Nat.le_of_ble_eq_true rfl) dX4_remove_2 ⟨(Nat.le_of_ble_eq_true rfl), (Nat.le_of_ble_eq_true rfl)⟩ ⟨(Nat.le_of_ble_eq_true rfl), (Nat.le_of_ble_eq_true rfl)⟩ rfl (fun H locs hW hS => ?_)
  by_cases cf_1 : c_X4_isPath x = 0
  · refine mt_te (y := 0) (by rw [show c_X4_asks lc mc bc N G x = (if c_X4_isPath x = 0 then 0 else 1) from rfl, if_pos cf_1]) ?_
    have hW := hW.to (w1 := mt_wc g ad lc mc bc (mt_gu N 200 15 1) G o d) (by rw [if_pos cf_1])
    refine lv_if_ne (tgt := 10) hx hb dX4_remove_5 (by decide) (fun c_2 => absurd (by decide) c_2) (fun c_2 => ?_)
    refine lv_iconst (v := -1) hx hb dX4_remove_8 (by decide) ?_
    have hW := hW.to (w1 := mt_wc g ad lc mc bc (c_X4_remove_N lc mc bc N G x) (c_X4_remove_G lc mc bc N G x) o d) (by rw [c_X4_remove_N, if_pos cf_1, c_X4_remove_G, if_pos cf_1])
    exact mt_ri S hr hk hW hS (by rw [c_X4_remove, if_pos cf_1]) (Nat.le_of_ble_eq_true rfl) (Nat.le_of_ble_eq_true rfl) dX4_remove_9
  · refine mt_te (y := 1) (by rw [show c_X4_asks lc mc bc N G x = (if c_X4_isPath x = 0 then 0 else 1) from rfl, if_neg cf_1]) ?_
    have hW := hW.to (w1 := mt_wc g ad lc mc bc (mt_gu N 200 15 0) G o d) (by rw [if_neg cf_1])
    refine lv_if_ne (tgt := 10) hx hb dX4_remove_5 (by decide) (fun c_3 => ?_) (fun c_3 => absurd c_3 (by decide))
    refine lv_aload_n hx hb dX4_remove_10 rfl (lv_at hl 0 rfl) ?_
    refine lv_iload_n hx hb dX4_remove_11 rfl (lv_at hl 1 rfl) ?_
    refine mt_cV1 (As := [.int (x)]) (rest := []) S pv_X4_shown mw_ml_X4_107 (k_X4_shown l hlt g z ad lc mc bc (mt_gu N 200 15 0) G o d h6 h8 hb6 x (by repeat (first | exact hM | exact hP | apply MI_t)) (isP_of cf_1)) hC hW hS wc_200 rfl rfl rfl hl.1 rfl (Nat.le_of_ble_eq_true rfl) dX4_remove_12 ⟨(Nat.le_of_ble_eq_true rfl), (Nat.le_of_ble_eq_true rfl)⟩ ⟨(Nat.le_of_ble_eq_true rfl), (Nat.le_of_ble_eq_true rfl)⟩ rfl (fun H locs hW hS => ?_)
    refine mt_te (y := c_X4_shown lc mc bc N G x) rfl ?_
    refine lv_istore_n (lv' := [(2, .int (c_X4_shown lc mc bc N G x)), (0, .ref (ad (200))), (1, .int (x))]) hx hb dX4_remove_15 rfl hl (by decide) rfl (fun ls hl => ?_)
    refine lv_aload_n hx hb dX4_remove_16 rfl (lv_at hl 1 rfl) ?_
    refine lv_iload_n hx hb dX4_remove_17 rfl (lv_at hl 0 rfl) ?_
    refine lv_iconst (v := -1) hx hb dX4_remove_18 (by decide) ?_
    refine lv_icmp_ne (tgt := 26) hx hb dX4_remove_19 (by decide) (fun c_4 => ?_) (fun c_4 => ?_)
    · refine lv_iconst (v := 0) hx hb dX4_remove_26 (by decide) ?_
      refine mt_put S iw_X4 tyX4 tyX4_ok nmX4 hC hW hS wc_200 rfl 15 (by decide) mw_fl_X4_44 rfl rfl rfl rfl (Nat.le_of_ble_eq_true rfl) dX4_remove_27 (fun H locs hW hS => ?_)
      have hW := hW.to (w1 := mt_wc g ad lc mc bc (mt_gu N 200 15 0) G o d) ((wc_sett (by decide)).trans (by rw [mt_gu2]))
      refine lv_aload_n hx hb dX4_remove_30 rfl (lv_at hl 1 rfl) ?_
      refine mt_get S iw_X4 hC hW wc_200 rfl 15 (by decide) mw_fl_X4_44 rfl rfl dX4_remove_31 ?_
      refine mt_te (y := 0) rfl ?_
      refine lv_if_le (tgt := 39) hx hb dX4_remove_34 (by decide) (fun c_5 => ?_) (fun c_5 => absurd (by decide) c_5)
      refine lv_aload_n hx hb dX4_remove_39 rfl (lv_at hl 1 rfl) ?_
      refine mt_get S iw_X4 hC hW wc_200 rfl 0 (by decide) mw_fl_X4_7 rfl rfl dX4_remove_40 ?_
      refine lv_iload_n hx hb dX4_remove_43 rfl (lv_at hl 0 rfl) ?_
      refine wk_iald S hC hW ar_201 (sh_in hM (isP_of cf_1) c_4) dX4_remove_44 ?_
      refine lv_iconst (v := 1) hx hb dX4_remove_45 (by decide) ?_
      refine lv_icmp_ne (tgt := 58) hx hb dX4_remove_46 (by decide) (fun c_6 => ?_) (fun c_6 => ?_)
      · refine lv_iconst (v := 0) hx hb dX4_remove_58 (by decide) ?_
        refine lv_istore_n (lv' := [(3, .int (0)), (2, .int (c_X4_shown lc mc bc N G x)), (0, .ref (ad (200))), (1, .int (x))]) hx hb dX4_remove_59 rfl hl (by decide) rfl (fun ls hl => ?_)
        refine lv_aload_n hx hb dX4_remove_60 rfl (lv_at hl 2 rfl) ?_
        refine lv_iload_n hx hb dX4_remove_61 rfl (lv_at hl 3 rfl) ?_
        refine mt_cV1 (As := [.int (x)]) (rest := []) S pv_X4_servedBy mw_ml_X4_90 (k_X4_servedBy l hlt g z ad lc mc bc (mt_gu N 200 15 0) G o d h6 h8 hb6 x (by repeat (first | exact hM | exact hP | apply MI_t)) (isP_of cf_1)) hC hW hS wc_200 rfl rfl rfl hl.1 rfl (Nat.le_of_ble_eq_true rfl) dX4_remove_62 ⟨(Nat.le_of_ble_eq_true rfl), (Nat.le_of_ble_eq_true rfl)⟩ ⟨(Nat.le_of_ble_eq_true rfl), (Nat.le_of_ble_eq_true rfl)⟩ rfl (fun H locs hW hS => ?_)
        refine mt_te (y := c_X4_servedBy lc mc bc N G x) rfl ?_
        refine lv_istore (lv' := [(4, .int (c_X4_servedBy lc mc bc N G x)), (3, .int (0)), (2, .int (c_X4_shown lc mc bc N G x)), (0, .ref (ad (200))), (1, .int (x))]) hx hb dX4_remove_65 hl (by decide) rfl (fun ls hl => ?_)
        refine lv_sipush (v := 341) hx hb dX4_remove_67 (by decide) ?_
        refine lv_aload_n hx hb dX4_remove_70 rfl (lv_at hl 3 rfl) ?_
        refine mt_get S iw_X4 hC hW wc_200 rfl 5 (by decide) mw_fl_X4_22 rfl rfl dX4_remove_71 ?_
        refine lv_iload hx hb dX4_remove_74 (lv_at hl 0 rfl) ?_
        refine wk_iald S hC hW ar_206 (sb_in hM (isP_of cf_1) (sh_s c_4)) dX4_remove_76 ?_
        refine lv_imul hx hb dX4_remove_77 ?_
        refine lv_iload_n hx hb dX4_remove_78 rfl (lv_at hl 4 rfl) ?_
        refine lv_aload_n hx hb dX4_remove_79 rfl (lv_at hl 3 rfl) ?_
        refine mt_get S iw_X4 hC hW wc_200 rfl 4 (by decide) mw_fl_X4_19 rfl rfl dX4_remove_80 ?_
        refine lv_iload hx hb dX4_remove_83 (lv_at hl 0 rfl) ?_
        refine wk_iald S hC hW ar_205 (sb_in hM (isP_of cf_1) (sh_s c_4)) dX4_remove_85 ?_
        refine mt_cS1 (As := [.int (x), .int (G 205 (c_X4_servedBy lc mc bc N G x).toNatClampNeg)]) (rest := [.int (341 * (G 206 (c_X4_servedBy lc mc bc N G x).toNatClampNeg))]) S ps_X4_rest mw_ml_X4_96 (k_X4_rest l hlt g z ad lc mc bc (mt_gu N 200 15 0) G o d h6 h8 hb6 x (G 205 (c_X4_servedBy lc mc bc N G x).toNatClampNeg) (isP_of cf_1) (sb_pt hM (isP_of cf_1) (sh_s c_4))) hC hW hS rfl hl.1 rfl (Nat.le_of_ble_eq_true rfl) dX4_remove_86 ⟨(Nat.le_of_ble_eq_true rfl), (Nat.le_of_ble_eq_true rfl)⟩ ⟨(Nat.le_of_ble_eq_true rfl), (Nat.le_of_ble_eq_true rfl)⟩ rfl (fun H locs hW hS => ?_)
        refine mt_cS1 (As := [.int (c_X4_rest x (G 205 (c_X4_servedBy lc mc bc N G x).toNatClampNeg))]) (rest := [.int (341 * (G 206 (c_X4_servedBy lc mc bc N G x).toNatClampNeg))]) S ps_X4_rank mw_ml_X4_99 (k_X4_rank l hlt g z ad lc mc bc (mt_gu N 200 15 0) G o d h6 h8 hb6 (c_X4_rest x (G 205 (c_X4_servedBy lc mc bc N G x).toNatClampNeg)) (sb_rest hM (isP_of cf_1) (sh_s c_4))) hC hW hS rfl hl.1 rfl (Nat.le_of_ble_eq_true rfl) dX4_remove_89 ⟨(Nat.le_of_ble_eq_true rfl), (Nat.le_of_ble_eq_true rfl)⟩ ⟨(Nat.le_of_ble_eq_true rfl), (Nat.le_of_ble_eq_true rfl)⟩ rfl (fun H locs hW hS => ?_)
        refine lv_iadd hx hb dX4_remove_92 ?_
        refine lv_istore (lv' := [(5, .int ((341 * (G 206 (c_X4_servedBy lc mc bc N G x).toNatClampNeg)) + (c_X4_rank (c_X4_rest x (G 205 (c_X4_servedBy lc mc bc N G x).toNatClampNeg))))), (4, .int (c_X4_servedBy lc mc bc N G x)), (3, .int (0)), (2, .int (c_X4_shown lc mc bc N G x)), (0, .ref (ad (200))), (1, .int (x))]) hx hb dX4_remove_93 hl (by decide) rfl (fun ls hl => ?_)
        refine lv_aload_n hx hb dX4_remove_95 rfl (lv_at hl 4 rfl) ?_
        refine mt_get S iw_X4 hC hW wc_200 rfl 6 (by decide) mw_fl_X4_25 rfl rfl dX4_remove_96 ?_
        refine lv_iload hx hb dX4_remove_99 (lv_at hl 1 rfl) ?_
        refine wk_iald S hC hW ar_207 (sb_in hM (isP_of cf_1) (sh_s c_4)) dX4_remove_101 ?_
        refine lv_iconst (v := -1) hx hb dX4_remove_102 (by decide) ?_
        refine lv_icmp_eq (tgt := 132) hx hb dX4_remove_103 (by decide) (fun c_7 => ?_) (fun c_7 => ?_)
        · refine lv_iconst (v := 0) hx hb dX4_remove_132 (by decide) ?_
          refine lv_istore (lv' := [(6, .int (0)), (5, .int ((341 * (G 206 (c_X4_servedBy lc mc bc N G x).toNatClampNeg)) + (c_X4_rank (c_X4_rest x (G 205 (c_X4_servedBy lc mc bc N G x).toNatClampNeg))))), (4, .int (c_X4_servedBy lc mc bc N G x)), (3, .int (0)), (2, .int (c_X4_shown lc mc bc N G x)), (0, .ref (ad (200))), (1, .int (x))]) hx hb dX4_remove_133 hl (by decide) rfl (fun ls hl => ?_)
          refine lv_aload_n hx hb dX4_remove_135 rfl (lv_at hl 5 rfl) ?_
          refine mt_get S iw_X4 hC hW wc_200 rfl 0 (by decide) mw_fl_X4_7 rfl rfl dX4_remove_136 ?_
          refine lv_aload_n hx hb dX4_remove_139 rfl (lv_at hl 5 rfl) ?_
          refine lv_iload_n hx hb dX4_remove_140 rfl (lv_at hl 6 rfl) ?_
          refine mt_cV1 (As := [.int (x)]) (rest := [.ref (ad (201))]) S pv_X4_target mw_ml_X4_104 (k_X4_target l hlt g z ad lc mc bc (mt_gu N 200 15 0) G o d h6 h8 hb6 x (by repeat (first | exact hM | exact hP | apply MI_t)) (isP_of cf_1) (sh_s c_4)) hC hW hS wc_200 rfl rfl rfl hl.1 rfl (Nat.le_of_ble_eq_true rfl) dX4_remove_141 ⟨(Nat.le_of_ble_eq_true rfl), (Nat.le_of_ble_eq_true rfl)⟩ ⟨(Nat.le_of_ble_eq_true rfl), (Nat.le_of_ble_eq_true rfl)⟩ rfl (fun H locs hW hS => ?_)
          refine mt_te (y := c_X4_target lc mc bc N G x) rfl ?_
          refine lv_iload hx hb dX4_remove_144 (lv_at hl 0 rfl) ?_
          refine lv_if_eq (tgt := 153) hx hb dX4_remove_146 (by decide) (fun c_8 => ?_) (fun c_8 => absurd (by decide) c_8)
          refine lv_iconst (v := 0) hx hb dX4_remove_153 (by decide) ?_
          refine wk_iast S hC hW hS ar_201 (vp_of (tg_at hM (isP_of cf_1) (sh_s c_4))) dX4_remove_154 (fun H locs hW hS => ?_)
          refine lv_iload_n hx hb dX4_remove_155 rfl (lv_at hl 3 rfl) ?_
          have hW := hW.to (w1 := mt_wc g ad lc mc bc (c_X4_remove_N lc mc bc N G x) (c_X4_remove_G lc mc bc N G x) o d) (by rw [c_X4_remove_N, if_neg cf_1, if_neg c_4, if_neg c_6, if_pos c_7, c_X4_remove_G, if_neg cf_1, if_neg c_4, if_neg c_6, if_pos c_7])
          exact mt_ri S hr hk hW hS (by rw [c_X4_remove, if_neg cf_1, if_neg c_4, if_neg c_6, if_pos c_7]) (Nat.le_of_ble_eq_true rfl) (Nat.le_of_ble_eq_true rfl) dX4_remove_156
        · refine lv_aload_n hx hb dX4_remove_106 rfl (lv_at hl 4 rfl) ?_
          refine mt_get S iw_X4 hC hW wc_200 rfl 0 (by decide) mw_fl_X4_7 rfl rfl dX4_remove_107 ?_
          refine lv_iload hx hb dX4_remove_110 (lv_at hl 0 rfl) ?_
          refine wk_iald S hC hW ar_201 (vp_of (lo_at hM (isP_of cf_1) (sh_s c_4))) dX4_remove_112 ?_
          refine lv_iconst (v := 1) hx hb dX4_remove_113 (by decide) ?_
          refine lv_icmp_eq (tgt := 128) hx hb dX4_remove_114 (by decide) (fun c_9 => ?_) (fun c_9 => ?_)
          · refine lv_iconst (v := 1) hx hb dX4_remove_128 (by decide) ?_
            refine lv_goto (tgt := 133) hx hb dX4_remove_129 (by decide) ?_
            refine lv_istore (lv' := [(6, .int (1)), (5, .int ((341 * (G 206 (c_X4_servedBy lc mc bc N G x).toNatClampNeg)) + (c_X4_rank (c_X4_rest x (G 205 (c_X4_servedBy lc mc bc N G x).toNatClampNeg))))), (4, .int (c_X4_servedBy lc mc bc N G x)), (3, .int (0)), (2, .int (c_X4_shown lc mc bc N G x)), (0, .ref (ad (200))), (1, .int (x))]) hx hb dX4_remove_133 hl (by decide) rfl (fun ls hl => ?_)
            refine lv_aload_n hx hb dX4_remove_135 rfl (lv_at hl 5 rfl) ?_
            refine mt_get S iw_X4 hC hW wc_200 rfl 0 (by decide) mw_fl_X4_7 rfl rfl dX4_remove_136 ?_
            refine lv_aload_n hx hb dX4_remove_139 rfl (lv_at hl 5 rfl) ?_
            refine lv_iload_n hx hb dX4_remove_140 rfl (lv_at hl 6 rfl) ?_
            refine mt_cV1 (As := [.int (x)]) (rest := [.ref (ad (201))]) S pv_X4_target mw_ml_X4_104 (k_X4_target l hlt g z ad lc mc bc (mt_gu N 200 15 0) G o d h6 h8 hb6 x (by repeat (first | exact hM | exact hP | apply MI_t)) (isP_of cf_1) (sh_s c_4)) hC hW hS wc_200 rfl rfl rfl hl.1 rfl (Nat.le_of_ble_eq_true rfl) dX4_remove_141 ⟨(Nat.le_of_ble_eq_true rfl), (Nat.le_of_ble_eq_true rfl)⟩ ⟨(Nat.le_of_ble_eq_true rfl), (Nat.le_of_ble_eq_true rfl)⟩ rfl (fun H locs hW hS => ?_)
            refine mt_te (y := c_X4_target lc mc bc N G x) rfl ?_
            refine lv_iload hx hb dX4_remove_144 (lv_at hl 0 rfl) ?_
            refine lv_if_eq (tgt := 153) hx hb dX4_remove_146 (by decide) (fun c_10 => absurd c_10 (by decide)) (fun c_10 => ?_)
            refine lv_iconst (v := 3) hx hb dX4_remove_149 (by decide) ?_
            refine lv_goto (tgt := 154) hx hb dX4_remove_150 (by decide) ?_
            refine wk_iast S hC hW hS ar_201 (vp_of (tg_at hM (isP_of cf_1) (sh_s c_4))) dX4_remove_154 (fun H locs hW hS => ?_)
            refine lv_iload_n hx hb dX4_remove_155 rfl (lv_at hl 3 rfl) ?_
            have hW := hW.to (w1 := mt_wc g ad lc mc bc (c_X4_remove_N lc mc bc N G x) (c_X4_remove_G lc mc bc N G x) o d) (by rw [c_X4_remove_N, if_neg cf_1, if_neg c_4, if_neg c_6, if_neg c_7, if_pos c_9, c_X4_remove_G, if_neg cf_1, if_neg c_4, if_neg c_6, if_neg c_7, if_pos c_9])
            exact mt_ri S hr hk hW hS (by rw [c_X4_remove, if_neg cf_1, if_neg c_4, if_neg c_6, if_neg c_7, if_pos c_9]) (Nat.le_of_ble_eq_true rfl) (Nat.le_of_ble_eq_true rfl) dX4_remove_156
          · refine lv_aload_n hx hb dX4_remove_117 rfl (lv_at hl 4 rfl) ?_
            refine mt_get S iw_X4 hC hW wc_200 rfl 0 (by decide) mw_fl_X4_7 rfl rfl dX4_remove_118 ?_
            refine lv_iload hx hb dX4_remove_121 (lv_at hl 0 rfl) ?_
            refine wk_iald S hC hW ar_201 (vp_of (lo_at hM (isP_of cf_1) (sh_s c_4))) dX4_remove_123 ?_
            refine lv_iconst (v := 2) hx hb dX4_remove_124 (by decide) ?_
            refine lv_icmp_ne (tgt := 132) hx hb dX4_remove_125 (by decide) (fun c_11 => ?_) (fun c_11 => ?_)
            · refine lv_iconst (v := 0) hx hb dX4_remove_132 (by decide) ?_
              refine lv_istore (lv' := [(6, .int (0)), (5, .int ((341 * (G 206 (c_X4_servedBy lc mc bc N G x).toNatClampNeg)) + (c_X4_rank (c_X4_rest x (G 205 (c_X4_servedBy lc mc bc N G x).toNatClampNeg))))), (4, .int (c_X4_servedBy lc mc bc N G x)), (3, .int (0)), (2, .int (c_X4_shown lc mc bc N G x)), (0, .ref (ad (200))), (1, .int (x))]) hx hb dX4_remove_133 hl (by decide) rfl (fun ls hl => ?_)
              refine lv_aload_n hx hb dX4_remove_135 rfl (lv_at hl 5 rfl) ?_
              refine mt_get S iw_X4 hC hW wc_200 rfl 0 (by decide) mw_fl_X4_7 rfl rfl dX4_remove_136 ?_
              refine lv_aload_n hx hb dX4_remove_139 rfl (lv_at hl 5 rfl) ?_
              refine lv_iload_n hx hb dX4_remove_140 rfl (lv_at hl 6 rfl) ?_
              refine mt_cV1 (As := [.int (x)]) (rest := [.ref (ad (201))]) S pv_X4_target mw_ml_X4_104 (k_X4_target l hlt g z ad lc mc bc (mt_gu N 200 15 0) G o d h6 h8 hb6 x (by repeat (first | exact hM | exact hP | apply MI_t)) (isP_of cf_1) (sh_s c_4)) hC hW hS wc_200 rfl rfl rfl hl.1 rfl (Nat.le_of_ble_eq_true rfl) dX4_remove_141 ⟨(Nat.le_of_ble_eq_true rfl), (Nat.le_of_ble_eq_true rfl)⟩ ⟨(Nat.le_of_ble_eq_true rfl), (Nat.le_of_ble_eq_true rfl)⟩ rfl (fun H locs hW hS => ?_)
              refine mt_te (y := c_X4_target lc mc bc N G x) rfl ?_
              refine lv_iload hx hb dX4_remove_144 (lv_at hl 0 rfl) ?_
              refine lv_if_eq (tgt := 153) hx hb dX4_remove_146 (by decide) (fun c_12 => ?_) (fun c_12 => absurd (by decide) c_12)
              refine lv_iconst (v := 0) hx hb dX4_remove_153 (by decide) ?_
              refine wk_iast S hC hW hS ar_201 (vp_of (tg_at hM (isP_of cf_1) (sh_s c_4))) dX4_remove_154 (fun H locs hW hS => ?_)
              refine lv_iload_n hx hb dX4_remove_155 rfl (lv_at hl 3 rfl) ?_
              have hW := hW.to (w1 := mt_wc g ad lc mc bc (c_X4_remove_N lc mc bc N G x) (c_X4_remove_G lc mc bc N G x) o d) (by rw [c_X4_remove_N, if_neg cf_1, if_neg c_4, if_neg c_6, if_neg c_7, if_neg c_9, if_neg c_11, c_X4_remove_G, if_neg cf_1, if_neg c_4, if_neg c_6, if_neg c_7, if_neg c_9, if_neg c_11])
              exact mt_ri S hr hk hW hS (by rw [c_X4_remove, if_neg cf_1, if_neg c_4, if_neg c_6, if_neg c_7, if_neg c_9, if_neg c_11]) (Nat.le_of_ble_eq_true rfl) (Nat.le_of_ble_eq_true rfl) dX4_remove_156
            · refine lv_iconst (v := 1) hx hb dX4_remove_128 (by decide) ?_
              refine lv_goto (tgt := 133) hx hb dX4_remove_129 (by decide) ?_
              refine lv_istore (lv' := [(6, .int (1)), (5, .int ((341 * (G 206 (c_X4_servedBy lc mc bc N G x).toNatClampNeg)) + (c_X4_rank (c_X4_rest x (G 205 (c_X4_servedBy lc mc bc N G x).toNatClampNeg))))), (4, .int (c_X4_servedBy lc mc bc N G x)), (3, .int (0)), (2, .int (c_X4_shown lc mc bc N G x)), (0, .ref (ad (200))), (1, .int (x))]) hx hb dX4_remove_133 hl (by decide) rfl (fun ls hl => ?_)
              refine lv_aload_n hx hb dX4_remove_135 rfl (lv_at hl 5 rfl) ?_
              refine mt_get S iw_X4 hC hW wc_200 rfl 0 (by decide) mw_fl_X4_7 rfl rfl dX4_remove_136 ?_
              refine lv_aload_n hx hb dX4_remove_139 rfl (lv_at hl 5 rfl) ?_
              refine lv_iload_n hx hb dX4_remove_140 rfl (lv_at hl 6 rfl) ?_
              refine mt_cV1 (As := [.int (x)]) (rest := [.ref (ad (201))]) S pv_X4_target mw_ml_X4_104 (k_X4_target l hlt g z ad lc mc bc (mt_gu N 200 15 0) G o d h6 h8 hb6 x (by repeat (first | exact hM | exact hP | apply MI_t)) (isP_of cf_1) (sh_s c_4)) hC hW hS wc_200 rfl rfl rfl hl.1 rfl (Nat.le_of_ble_eq_true rfl) dX4_remove_141 ⟨(Nat.le_of_ble_eq_true rfl), (Nat.le_of_ble_eq_true rfl)⟩ ⟨(Nat.le_of_ble_eq_true rfl), (Nat.le_of_ble_eq_true rfl)⟩ rfl (fun H locs hW hS => ?_)
              refine mt_te (y := c_X4_target lc mc bc N G x) rfl ?_
              refine lv_iload hx hb dX4_remove_144 (lv_at hl 0 rfl) ?_
              refine lv_if_eq (tgt := 153) hx hb dX4_remove_146 (by decide) (fun c_13 => absurd c_13 (by decide)) (fun c_13 => ?_)
              refine lv_iconst (v := 3) hx hb dX4_remove_149 (by decide) ?_
              refine lv_goto (tgt := 154) hx hb dX4_remove_150 (by decide) ?_
              refine wk_iast S hC hW hS ar_201 (vp_of (tg_at hM (isP_of cf_1) (sh_s c_4))) dX4_remove_154 (fun H locs hW hS => ?_)
              refine lv_iload_n hx hb dX4_remove_155 rfl (lv_at hl 3 rfl) ?_
              have hW := hW.to (w1 := mt_wc g ad lc mc bc (c_X4_remove_N lc mc bc N G x) (c_X4_remove_G lc mc bc N G x) o d) (by rw [c_X4_remove_N, if_neg cf_1, if_neg c_4, if_neg c_6, if_neg c_7, if_neg c_9, if_pos c_11, c_X4_remove_G, if_neg cf_1, if_neg c_4, if_neg c_6, if_neg c_7, if_neg c_9, if_pos c_11])
              exact mt_ri S hr hk hW hS (by rw [c_X4_remove, if_neg cf_1, if_neg c_4, if_neg c_6, if_neg c_7, if_neg c_9, if_pos c_11]) (Nat.le_of_ble_eq_true rfl) (Nat.le_of_ble_eq_true rfl) dX4_remove_156
      · refine lv_aload_n hx hb dX4_remove_49 rfl (lv_at hl 1 rfl) ?_
        refine mt_get S iw_X4 hC hW wc_200 rfl 2 (by decide) mw_fl_X4_16 rfl rfl dX4_remove_50 ?_
        refine lv_iload_n hx hb dX4_remove_53 rfl (lv_at hl 0 rfl) ?_
        refine wk_iald S hC hW ar_203 (sh_in hM (isP_of cf_1) c_4) dX4_remove_54 ?_
        refine lv_goto (tgt := 59) hx hb dX4_remove_55 (by decide) ?_
        refine lv_istore_n (lv' := [(3, .int (G 203 (c_X4_shown lc mc bc N G x).toNatClampNeg)), (2, .int (c_X4_shown lc mc bc N G x)), (0, .ref (ad (200))), (1, .int (x))]) hx hb dX4_remove_59 rfl hl (by decide) rfl (fun ls hl => ?_)
        refine lv_aload_n hx hb dX4_remove_60 rfl (lv_at hl 2 rfl) ?_
        refine lv_iload_n hx hb dX4_remove_61 rfl (lv_at hl 3 rfl) ?_
        refine mt_cV1 (As := [.int (x)]) (rest := []) S pv_X4_servedBy mw_ml_X4_90 (k_X4_servedBy l hlt g z ad lc mc bc (mt_gu N 200 15 0) G o d h6 h8 hb6 x (by repeat (first | exact hM | exact hP | apply MI_t)) (isP_of cf_1)) hC hW hS wc_200 rfl rfl rfl hl.1 rfl (Nat.le_of_ble_eq_true rfl) dX4_remove_62 ⟨(Nat.le_of_ble_eq_true rfl), (Nat.le_of_ble_eq_true rfl)⟩ ⟨(Nat.le_of_ble_eq_true rfl), (Nat.le_of_ble_eq_true rfl)⟩ rfl (fun H locs hW hS => ?_)
        refine mt_te (y := c_X4_servedBy lc mc bc N G x) rfl ?_
        refine lv_istore (lv' := [(4, .int (c_X4_servedBy lc mc bc N G x)), (3, .int (G 203 (c_X4_shown lc mc bc N G x).toNatClampNeg)), (2, .int (c_X4_shown lc mc bc N G x)), (0, .ref (ad (200))), (1, .int (x))]) hx hb dX4_remove_65 hl (by decide) rfl (fun ls hl => ?_)
        refine lv_sipush (v := 341) hx hb dX4_remove_67 (by decide) ?_
        refine lv_aload_n hx hb dX4_remove_70 rfl (lv_at hl 3 rfl) ?_
        refine mt_get S iw_X4 hC hW wc_200 rfl 5 (by decide) mw_fl_X4_22 rfl rfl dX4_remove_71 ?_
        refine lv_iload hx hb dX4_remove_74 (lv_at hl 0 rfl) ?_
        refine wk_iald S hC hW ar_206 (sb_in hM (isP_of cf_1) (sh_s c_4)) dX4_remove_76 ?_
        refine lv_imul hx hb dX4_remove_77 ?_
        refine lv_iload_n hx hb dX4_remove_78 rfl (lv_at hl 4 rfl) ?_
        refine lv_aload_n hx hb dX4_remove_79 rfl (lv_at hl 3 rfl) ?_
        refine mt_get S iw_X4 hC hW wc_200 rfl 4 (by decide) mw_fl_X4_19 rfl rfl dX4_remove_80 ?_
        refine lv_iload hx hb dX4_remove_83 (lv_at hl 0 rfl) ?_
        refine wk_iald S hC hW ar_205 (sb_in hM (isP_of cf_1) (sh_s c_4)) dX4_remove_85 ?_
        refine mt_cS1 (As := [.int (x), .int (G 205 (c_X4_servedBy lc mc bc N G x).toNatClampNeg)]) (rest := [.int (341 * (G 206 (c_X4_servedBy lc mc bc N G x).toNatClampNeg))]) S ps_X4_rest mw_ml_X4_96 (k_X4_rest l hlt g z ad lc mc bc (mt_gu N 200 15 0) G o d h6 h8 hb6 x (G 205 (c_X4_servedBy lc mc bc N G x).toNatClampNeg) (isP_of cf_1) (sb_pt hM (isP_of cf_1) (sh_s c_4))) hC hW hS rfl hl.1 rfl (Nat.le_of_ble_eq_true rfl) dX4_remove_86 ⟨(Nat.le_of_ble_eq_true rfl), (Nat.le_of_ble_eq_true rfl)⟩ ⟨(Nat.le_of_ble_eq_true rfl), (Nat.le_of_ble_eq_true rfl)⟩ rfl (fun H locs hW hS => ?_)
        refine mt_cS1 (As := [.int (c_X4_rest x (G 205 (c_X4_servedBy lc mc bc N G x).toNatClampNeg))]) (rest := [.int (341 * (G 206 (c_X4_servedBy lc mc bc N G x).toNatClampNeg))]) S ps_X4_rank mw_ml_X4_99 (k_X4_rank l hlt g z ad lc mc bc (mt_gu N 200 15 0) G o d h6 h8 hb6 (c_X4_rest x (G 205 (c_X4_servedBy lc mc bc N G x).toNatClampNeg)) (sb_rest hM (isP_of cf_1) (sh_s c_4))) hC hW hS rfl hl.1 rfl (Nat.le_of_ble_eq_true rfl) dX4_remove_89 ⟨(Nat.le_of_ble_eq_true rfl), (Nat.le_of_ble_eq_true rfl)⟩ ⟨(Nat.le_of_ble_eq_true rfl), (Nat.le_of_ble_eq_true rfl)⟩ rfl (fun H locs hW hS => ?_)
        refine lv_iadd hx hb dX4_remove_92 ?_
        refine lv_istore (lv' := [(5, .int ((341 * (G 206 (c_X4_servedBy lc mc bc N G x).toNatClampNeg)) + (c_X4_rank (c_X4_rest x (G 205 (c_X4_servedBy lc mc bc N G x).toNatClampNeg))))), (4, .int (c_X4_servedBy lc mc bc N G x)), (3, .int (G 203 (c_X4_shown lc mc bc N G x).toNatClampNeg)), (2, .int (c_X4_shown lc mc bc N G x)), (0, .ref (ad (200))), (1, .int (x))]) hx hb dX4_remove_93 hl (by decide) rfl (fun ls hl => ?_)
        refine lv_aload_n hx hb dX4_remove_95 rfl (lv_at hl 4 rfl) ?_
        refine mt_get S iw_X4 hC hW wc_200 rfl 6 (by decide) mw_fl_X4_25 rfl rfl dX4_remove_96 ?_
        refine lv_iload hx hb dX4_remove_99 (lv_at hl 1 rfl) ?_
        refine wk_iald S hC hW ar_207 (sb_in hM (isP_of cf_1) (sh_s c_4)) dX4_remove_101 ?_
        refine lv_iconst (v := -1) hx hb dX4_remove_102 (by decide) ?_
        refine lv_icmp_eq (tgt := 132) hx hb dX4_remove_103 (by decide) (fun c_14 => ?_) (fun c_14 => ?_)
        · refine lv_iconst (v := 0) hx hb dX4_remove_132 (by decide) ?_
          refine lv_istore (lv' := [(6, .int (0)), (5, .int ((341 * (G 206 (c_X4_servedBy lc mc bc N G x).toNatClampNeg)) + (c_X4_rank (c_X4_rest x (G 205 (c_X4_servedBy lc mc bc N G x).toNatClampNeg))))), (4, .int (c_X4_servedBy lc mc bc N G x)), (3, .int (G 203 (c_X4_shown lc mc bc N G x).toNatClampNeg)), (2, .int (c_X4_shown lc mc bc N G x)), (0, .ref (ad (200))), (1, .int (x))]) hx hb dX4_remove_133 hl (by decide) rfl (fun ls hl => ?_)
          refine lv_aload_n hx hb dX4_remove_135 rfl (lv_at hl 5 rfl) ?_
          refine mt_get S iw_X4 hC hW wc_200 rfl 0 (by decide) mw_fl_X4_7 rfl rfl dX4_remove_136 ?_
          refine lv_aload_n hx hb dX4_remove_139 rfl (lv_at hl 5 rfl) ?_
          refine lv_iload_n hx hb dX4_remove_140 rfl (lv_at hl 6 rfl) ?_
          refine mt_cV1 (As := [.int (x)]) (rest := [.ref (ad (201))]) S pv_X4_target mw_ml_X4_104 (k_X4_target l hlt g z ad lc mc bc (mt_gu N 200 15 0) G o d h6 h8 hb6 x (by repeat (first | exact hM | exact hP | apply MI_t)) (isP_of cf_1) (sh_s c_4)) hC hW hS wc_200 rfl rfl rfl hl.1 rfl (Nat.le_of_ble_eq_true rfl) dX4_remove_141 ⟨(Nat.le_of_ble_eq_true rfl), (Nat.le_of_ble_eq_true rfl)⟩ ⟨(Nat.le_of_ble_eq_true rfl), (Nat.le_of_ble_eq_true rfl)⟩ rfl (fun H locs hW hS => ?_)
          refine mt_te (y := c_X4_target lc mc bc N G x) rfl ?_
          refine lv_iload hx hb dX4_remove_144 (lv_at hl 0 rfl) ?_
          refine lv_if_eq (tgt := 153) hx hb dX4_remove_146 (by decide) (fun c_15 => ?_) (fun c_15 => absurd (by decide) c_15)
          refine lv_iconst (v := 0) hx hb dX4_remove_153 (by decide) ?_
          refine wk_iast S hC hW hS ar_201 (vp_of (tg_at hM (isP_of cf_1) (sh_s c_4))) dX4_remove_154 (fun H locs hW hS => ?_)
          refine lv_iload_n hx hb dX4_remove_155 rfl (lv_at hl 3 rfl) ?_
          have hW := hW.to (w1 := mt_wc g ad lc mc bc (c_X4_remove_N lc mc bc N G x) (c_X4_remove_G lc mc bc N G x) o d) (by rw [c_X4_remove_N, if_neg cf_1, if_neg c_4, if_pos c_6, if_pos c_14, c_X4_remove_G, if_neg cf_1, if_neg c_4, if_pos c_6, if_pos c_14])
          exact mt_ri S hr hk hW hS (by rw [c_X4_remove, if_neg cf_1, if_neg c_4, if_pos c_6, if_pos c_14]) (Nat.le_of_ble_eq_true rfl) (Nat.le_of_ble_eq_true rfl) dX4_remove_156
        · refine lv_aload_n hx hb dX4_remove_106 rfl (lv_at hl 4 rfl) ?_
          refine mt_get S iw_X4 hC hW wc_200 rfl 0 (by decide) mw_fl_X4_7 rfl rfl dX4_remove_107 ?_
          refine lv_iload hx hb dX4_remove_110 (lv_at hl 0 rfl) ?_
          refine wk_iald S hC hW ar_201 (vp_of (lo_at hM (isP_of cf_1) (sh_s c_4))) dX4_remove_112 ?_
          refine lv_iconst (v := 1) hx hb dX4_remove_113 (by decide) ?_
          refine lv_icmp_eq (tgt := 128) hx hb dX4_remove_114 (by decide) (fun c_16 => ?_) (fun c_16 => ?_)
          · refine lv_iconst (v := 1) hx hb dX4_remove_128 (by decide) ?_
            refine lv_goto (tgt := 133) hx hb dX4_remove_129 (by decide) ?_
            refine lv_istore (lv' := [(6, .int (1)), (5, .int ((341 * (G 206 (c_X4_servedBy lc mc bc N G x).toNatClampNeg)) + (c_X4_rank (c_X4_rest x (G 205 (c_X4_servedBy lc mc bc N G x).toNatClampNeg))))), (4, .int (c_X4_servedBy lc mc bc N G x)), (3, .int (G 203 (c_X4_shown lc mc bc N G x).toNatClampNeg)), (2, .int (c_X4_shown lc mc bc N G x)), (0, .ref (ad (200))), (1, .int (x))]) hx hb dX4_remove_133 hl (by decide) rfl (fun ls hl => ?_)
            refine lv_aload_n hx hb dX4_remove_135 rfl (lv_at hl 5 rfl) ?_
            refine mt_get S iw_X4 hC hW wc_200 rfl 0 (by decide) mw_fl_X4_7 rfl rfl dX4_remove_136 ?_
            refine lv_aload_n hx hb dX4_remove_139 rfl (lv_at hl 5 rfl) ?_
            refine lv_iload_n hx hb dX4_remove_140 rfl (lv_at hl 6 rfl) ?_
            refine mt_cV1 (As := [.int (x)]) (rest := [.ref (ad (201))]) S pv_X4_target mw_ml_X4_104 (k_X4_target l hlt g z ad lc mc bc (mt_gu N 200 15 0) G o d h6 h8 hb6 x (by repeat (first | exact hM | exact hP | apply MI_t)) (isP_of cf_1) (sh_s c_4)) hC hW hS wc_200 rfl rfl rfl hl.1 rfl (Nat.le_of_ble_eq_true rfl) dX4_remove_141 ⟨(Nat.le_of_ble_eq_true rfl), (Nat.le_of_ble_eq_true rfl)⟩ ⟨(Nat.le_of_ble_eq_true rfl), (Nat.le_of_ble_eq_true rfl)⟩ rfl (fun H locs hW hS => ?_)
            refine mt_te (y := c_X4_target lc mc bc N G x) rfl ?_
            refine lv_iload hx hb dX4_remove_144 (lv_at hl 0 rfl) ?_
            refine lv_if_eq (tgt := 153) hx hb dX4_remove_146 (by decide) (fun c_17 => absurd c_17 (by decide)) (fun c_17 => ?_)
            refine lv_iconst (v := 3) hx hb dX4_remove_149 (by decide) ?_
            refine lv_goto (tgt := 154) hx hb dX4_remove_150 (by decide) ?_
            refine wk_iast S hC hW hS ar_201 (vp_of (tg_at hM (isP_of cf_1) (sh_s c_4))) dX4_remove_154 (fun H locs hW hS => ?_)
            refine lv_iload_n hx hb dX4_remove_155 rfl (lv_at hl 3 rfl) ?_
            have hW := hW.to (w1 := mt_wc g ad lc mc bc (c_X4_remove_N lc mc bc N G x) (c_X4_remove_G lc mc bc N G x) o d) (by rw [c_X4_remove_N, if_neg cf_1, if_neg c_4, if_pos c_6, if_neg c_14, if_pos c_16, c_X4_remove_G, if_neg cf_1, if_neg c_4, if_pos c_6, if_neg c_14, if_pos c_16])
            exact mt_ri S hr hk hW hS (by rw [c_X4_remove, if_neg cf_1, if_neg c_4, if_pos c_6, if_neg c_14, if_pos c_16]) (Nat.le_of_ble_eq_true rfl) (Nat.le_of_ble_eq_true rfl) dX4_remove_156
          · refine lv_aload_n hx hb dX4_remove_117 rfl (lv_at hl 4 rfl) ?_
            refine mt_get S iw_X4 hC hW wc_200 rfl 0 (by decide) mw_fl_X4_7 rfl rfl dX4_remove_118 ?_
            refine lv_iload hx hb dX4_remove_121 (lv_at hl 0 rfl) ?_
            refine wk_iald S hC hW ar_201 (vp_of (lo_at hM (isP_of cf_1) (sh_s c_4))) dX4_remove_123 ?_
            refine lv_iconst (v := 2) hx hb dX4_remove_124 (by decide) ?_
            refine lv_icmp_ne (tgt := 132) hx hb dX4_remove_125 (by decide) (fun c_18 => ?_) (fun c_18 => ?_)
            · refine lv_iconst (v := 0) hx hb dX4_remove_132 (by decide) ?_
              refine lv_istore (lv' := [(6, .int (0)), (5, .int ((341 * (G 206 (c_X4_servedBy lc mc bc N G x).toNatClampNeg)) + (c_X4_rank (c_X4_rest x (G 205 (c_X4_servedBy lc mc bc N G x).toNatClampNeg))))), (4, .int (c_X4_servedBy lc mc bc N G x)), (3, .int (G 203 (c_X4_shown lc mc bc N G x).toNatClampNeg)), (2, .int (c_X4_shown lc mc bc N G x)), (0, .ref (ad (200))), (1, .int (x))]) hx hb dX4_remove_133 hl (by decide) rfl (fun ls hl => ?_)
              refine lv_aload_n hx hb dX4_remove_135 rfl (lv_at hl 5 rfl) ?_
              refine mt_get S iw_X4 hC hW wc_200 rfl 0 (by decide) mw_fl_X4_7 rfl rfl dX4_remove_136 ?_
              refine lv_aload_n hx hb dX4_remove_139 rfl (lv_at hl 5 rfl) ?_
              refine lv_iload_n hx hb dX4_remove_140 rfl (lv_at hl 6 rfl) ?_
              refine mt_cV1 (As := [.int (x)]) (rest := [.ref (ad (201))]) S pv_X4_target mw_ml_X4_104 (k_X4_target l hlt g z ad lc mc bc (mt_gu N 200 15 0) G o d h6 h8 hb6 x (by repeat (first | exact hM | exact hP | apply MI_t)) (isP_of cf_1) (sh_s c_4)) hC hW hS wc_200 rfl rfl rfl hl.1 rfl (Nat.le_of_ble_eq_true rfl) dX4_remove_141 ⟨(Nat.le_of_ble_eq_true rfl), (Nat.le_of_ble_eq_true rfl)⟩ ⟨(Nat.le_of_ble_eq_true rfl), (Nat.le_of_ble_eq_true rfl)⟩ rfl (fun H locs hW hS => ?_)
              refine mt_te (y := c_X4_target lc mc bc N G x) rfl ?_
              refine lv_iload hx hb dX4_remove_144 (lv_at hl 0 rfl) ?_
              refine lv_if_eq (tgt := 153) hx hb dX4_remove_146 (by decide) (fun c_19 => ?_) (fun c_19 => absurd (by decide) c_19)
              refine lv_iconst (v := 0) hx hb dX4_remove_153 (by decide) ?_
              refine wk_iast S hC hW hS ar_201 (vp_of (tg_at hM (isP_of cf_1) (sh_s c_4))) dX4_remove_154 (fun H locs hW hS => ?_)
              refine lv_iload_n hx hb dX4_remove_155 rfl (lv_at hl 3 rfl) ?_
              have hW := hW.to (w1 := mt_wc g ad lc mc bc (c_X4_remove_N lc mc bc N G x) (c_X4_remove_G lc mc bc N G x) o d) (by rw [c_X4_remove_N, if_neg cf_1, if_neg c_4, if_pos c_6, if_neg c_14, if_neg c_16, if_neg c_18, c_X4_remove_G, if_neg cf_1, if_neg c_4, if_pos c_6, if_neg c_14, if_neg c_16, if_neg c_18])
              exact mt_ri S hr hk hW hS (by rw [c_X4_remove, if_neg cf_1, if_neg c_4, if_pos c_6, if_neg c_14, if_neg c_16, if_neg c_18]) (Nat.le_of_ble_eq_true rfl) (Nat.le_of_ble_eq_true rfl) dX4_remove_156
            · refine lv_iconst (v := 1) hx hb dX4_remove_128 (by decide) ?_
              refine lv_goto (tgt := 133) hx hb dX4_remove_129 (by decide) ?_
              refine lv_istore (lv' := [(6, .int (1)), (5, .int ((341 * (G 206 (c_X4_servedBy lc mc bc N G x).toNatClampNeg)) + (c_X4_rank (c_X4_rest x (G 205 (c_X4_servedBy lc mc bc N G x).toNatClampNeg))))), (4, .int (c_X4_servedBy lc mc bc N G x)), (3, .int (G 203 (c_X4_shown lc mc bc N G x).toNatClampNeg)), (2, .int (c_X4_shown lc mc bc N G x)), (0, .ref (ad (200))), (1, .int (x))]) hx hb dX4_remove_133 hl (by decide) rfl (fun ls hl => ?_)
              refine lv_aload_n hx hb dX4_remove_135 rfl (lv_at hl 5 rfl) ?_
              refine mt_get S iw_X4 hC hW wc_200 rfl 0 (by decide) mw_fl_X4_7 rfl rfl dX4_remove_136 ?_
              refine lv_aload_n hx hb dX4_remove_139 rfl (lv_at hl 5 rfl) ?_
              refine lv_iload_n hx hb dX4_remove_140 rfl (lv_at hl 6 rfl) ?_
              refine mt_cV1 (As := [.int (x)]) (rest := [.ref (ad (201))]) S pv_X4_target mw_ml_X4_104 (k_X4_target l hlt g z ad lc mc bc (mt_gu N 200 15 0) G o d h6 h8 hb6 x (by repeat (first | exact hM | exact hP | apply MI_t)) (isP_of cf_1) (sh_s c_4)) hC hW hS wc_200 rfl rfl rfl hl.1 rfl (Nat.le_of_ble_eq_true rfl) dX4_remove_141 ⟨(Nat.le_of_ble_eq_true rfl), (Nat.le_of_ble_eq_true rfl)⟩ ⟨(Nat.le_of_ble_eq_true rfl), (Nat.le_of_ble_eq_true rfl)⟩ rfl (fun H locs hW hS => ?_)
              refine mt_te (y := c_X4_target lc mc bc N G x) rfl ?_
              refine lv_iload hx hb dX4_remove_144 (lv_at hl 0 rfl) ?_
              refine lv_if_eq (tgt := 153) hx hb dX4_remove_146 (by decide) (fun c_20 => absurd c_20 (by decide)) (fun c_20 => ?_)
              refine lv_iconst (v := 3) hx hb dX4_remove_149 (by decide) ?_
              refine lv_goto (tgt := 154) hx hb dX4_remove_150 (by decide) ?_
              refine wk_iast S hC hW hS ar_201 (vp_of (tg_at hM (isP_of cf_1) (sh_s c_4))) dX4_remove_154 (fun H locs hW hS => ?_)
              refine lv_iload_n hx hb dX4_remove_155 rfl (lv_at hl 3 rfl) ?_
              have hW := hW.to (w1 := mt_wc g ad lc mc bc (c_X4_remove_N lc mc bc N G x) (c_X4_remove_G lc mc bc N G x) o d) (by rw [c_X4_remove_N, if_neg cf_1, if_neg c_4, if_pos c_6, if_neg c_14, if_neg c_16, if_pos c_18, c_X4_remove_G, if_neg cf_1, if_neg c_4, if_pos c_6, if_neg c_14, if_neg c_16, if_pos c_18])
              exact mt_ri S hr hk hW hS (by rw [c_X4_remove, if_neg cf_1, if_neg c_4, if_pos c_6, if_neg c_14, if_neg c_16, if_pos c_18]) (Nat.le_of_ble_eq_true rfl) (Nat.le_of_ble_eq_true rfl) dX4_remove_156
    · refine lv_iconst (v := 2) hx hb dX4_remove_22 (by decide) ?_
      refine lv_goto (tgt := 27) hx hb dX4_remove_23 (by decide) ?_
      refine mt_put S iw_X4 tyX4 tyX4_ok nmX4 hC hW hS wc_200 rfl 15 (by decide) mw_fl_X4_44 rfl rfl rfl rfl (Nat.le_of_ble_eq_true rfl) dX4_remove_27 (fun H locs hW hS => ?_)
      have hW := hW.to (w1 := mt_wc g ad lc mc bc (mt_gu N 200 15 2) G o d) ((wc_sett (by decide)).trans (by rw [mt_gu2]))
      refine lv_aload_n hx hb dX4_remove_30 rfl (lv_at hl 1 rfl) ?_
      refine mt_get S iw_X4 hC hW wc_200 rfl 15 (by decide) mw_fl_X4_44 rfl rfl dX4_remove_31 ?_
      refine mt_te (y := 2) rfl ?_
      refine lv_if_le (tgt := 39) hx hb dX4_remove_34 (by decide) (fun c_21 => absurd c_21 (by decide)) (fun c_21 => ?_)
      refine lv_iconst (v := -1) hx hb dX4_remove_37 (by decide) ?_
      have hW := hW.to (w1 := mt_wc g ad lc mc bc (c_X4_remove_N lc mc bc N G x) (c_X4_remove_G lc mc bc N G x) o d) (by rw [c_X4_remove_N, if_neg cf_1, if_pos c_4, c_X4_remove_G, if_neg cf_1, if_pos c_4])
      exact mt_ri S hr hk hW hS (by rw [c_X4_remove, if_neg cf_1, if_pos c_4]) (Nat.le_of_ble_eq_true rfl) (Nat.le_of_ble_eq_true rfl) dX4_remove_38
def c_X4_shows (lc mc bc : Nat) (N G : Nat → Nat → Int32) (x : Int32) : Int32 := if c_X4_isPath x = 0 then 32 else (if (c_X4_shown lc mc bc N G x) = (-1) then 45 else (if (G 201 (c_X4_shown lc mc bc N G x).toNatClampNeg) = 1 then 102 else 108))
def c_X4_shows_N (lc mc bc : Nat) (N G : Nat → Nat → Int32) (x : Int32) : Nat → Nat → Int32 := if c_X4_isPath x = 0 then (mt_gu N 200 15 1) else (if (c_X4_shown lc mc bc N G x) = (-1) then (mt_gu N 200 15 0) else (if (G 201 (c_X4_shown lc mc bc N G x).toNatClampNeg) = 1 then (mt_gu N 200 15 0) else (mt_gu N 200 15 0)))
set_option maxRecDepth 100000 in
set_option maxHeartbeats 4000000 in
theorem k_X4_shows (l : Launch) (hlt : l.stackTraces = false) (g : mt_G) (z : Nat) (ad : Nat → Nat) (lc mc bc : Nat) (N G : Nat → Nat → Int32) (o : Nat → Int64) (d : mt_D) (h6 : lc ≤ 6) (h8 : mc ≤ 8) (hb6 : bc ≤ 6) (x : Int32) (hM : MI N G) : mt_K l g z yX4_shows cX4_shows 3 (some .char) 4 93 0 0 [.ref (ad (200)), .int x] (mt_wc g ad lc mc bc N G o d) ad (.inr (some (.int (c_X4_shows lc mc bc N G x)))) (mt_wc g ad lc mc bc (c_X4_shows_N lc mc bc N G x) G o d) ad := by
  refine mt_ofW (by decide +kernel) (Nat.le_of_ble_eq_true rfl) ?_
  intro p e s m args below meth c S hr9 hk hnm hout hC hW hS ls hl
  have hr := hr9
  have hx := S.1
  have hb := S.2.1
  have hl : lv_has ls 3 [(0, .ref (ad (200))), (1, .int (x))] := hl
  refine lv_aload_n hx hb dX4_shows_0 rfl (lv_at hl 0 rfl) ?_
  refine lv_iload_n hx hb dX4_shows_1 rfl (lv_at hl 1 rfl) ?_
  refine mt_cV1 (As := [.int (x)]) (rest := []) S pv_X4_asks mw_ml_X4_128 (k_X4_asks l hlt g z ad lc mc bc N G o d h6 h8 hb6 x) hC hW hS wc_200 rfl rfl rfl hl.1 rfl (Nat.le_of_ble_eq_true rfl) dX4_shows_2 ⟨(Nat.le_of_ble_eq_true rfl), (Nat.le_of_ble_eq_true rfl)⟩ ⟨(Nat.le_of_ble_eq_true rfl), (Nat.le_of_ble_eq_true rfl)⟩ rfl (fun H locs hW hS => ?_)
  by_cases cf_1 : c_X4_isPath x = 0
  · refine mt_te (y := 0) (by rw [show c_X4_asks lc mc bc N G x = (if c_X4_isPath x = 0 then 0 else 1) from rfl, if_pos cf_1]) ?_
    have hW := hW.to (w1 := mt_wc g ad lc mc bc (mt_gu N 200 15 1) G o d) (by rw [if_pos cf_1])
    refine lv_if_ne (tgt := 11) hx hb dX4_shows_5 (by decide) (fun c_2 => absurd (by decide) c_2) (fun c_2 => ?_)
    refine lv_bipush (v := 32) hx hb dX4_shows_8 (by decide) ?_
    have hW := hW.to (w1 := mt_wc g ad lc mc bc (c_X4_shows_N lc mc bc N G x) G o d) (by rw [c_X4_shows_N, if_pos cf_1])
    exact mt_rz S hr hk rfl hW hS (by rw [c_X4_shows, if_pos cf_1]) (Nat.le_of_ble_eq_true rfl) (Nat.le_of_ble_eq_true rfl) dX4_shows_10
  · refine mt_te (y := 1) (by rw [show c_X4_asks lc mc bc N G x = (if c_X4_isPath x = 0 then 0 else 1) from rfl, if_neg cf_1]) ?_
    have hW := hW.to (w1 := mt_wc g ad lc mc bc (mt_gu N 200 15 0) G o d) (by rw [if_neg cf_1])
    refine lv_if_ne (tgt := 11) hx hb dX4_shows_5 (by decide) (fun c_3 => ?_) (fun c_3 => absurd c_3 (by decide))
    refine lv_aload_n hx hb dX4_shows_11 rfl (lv_at hl 0 rfl) ?_
    refine lv_iload_n hx hb dX4_shows_12 rfl (lv_at hl 1 rfl) ?_
    refine mt_cV1 (As := [.int (x)]) (rest := []) S pv_X4_shown mw_ml_X4_107 (k_X4_shown l hlt g z ad lc mc bc (mt_gu N 200 15 0) G o d h6 h8 hb6 x (by repeat (first | exact hM | exact hP | apply MI_t)) (isP_of cf_1)) hC hW hS wc_200 rfl rfl rfl hl.1 rfl (Nat.le_of_ble_eq_true rfl) dX4_shows_13 ⟨(Nat.le_of_ble_eq_true rfl), (Nat.le_of_ble_eq_true rfl)⟩ ⟨(Nat.le_of_ble_eq_true rfl), (Nat.le_of_ble_eq_true rfl)⟩ rfl (fun H locs hW hS => ?_)
    refine mt_te (y := c_X4_shown lc mc bc N G x) rfl ?_
    refine lv_istore_n (lv' := [(2, .int (c_X4_shown lc mc bc N G x)), (0, .ref (ad (200))), (1, .int (x))]) hx hb dX4_shows_16 rfl hl (by decide) rfl (fun ls hl => ?_)
    refine lv_iload_n hx hb dX4_shows_17 rfl (lv_at hl 0 rfl) ?_
    refine lv_iconst (v := -1) hx hb dX4_shows_18 (by decide) ?_
    refine lv_icmp_ne (tgt := 27) hx hb dX4_shows_19 (by decide) (fun c_4 => ?_) (fun c_4 => ?_)
    · refine lv_aload_n hx hb dX4_shows_27 rfl (lv_at hl 1 rfl) ?_
      refine mt_get S iw_X4 hC hW wc_200 rfl 0 (by decide) mw_fl_X4_7 rfl rfl dX4_shows_28 ?_
      refine lv_iload_n hx hb dX4_shows_31 rfl (lv_at hl 0 rfl) ?_
      refine wk_iald S hC hW ar_201 (sh_in hM (isP_of cf_1) c_4) dX4_shows_32 ?_
      refine lv_iconst (v := 1) hx hb dX4_shows_33 (by decide) ?_
      refine lv_icmp_ne (tgt := 42) hx hb dX4_shows_34 (by decide) (fun c_5 => ?_) (fun c_5 => ?_)
      · refine lv_bipush (v := 108) hx hb dX4_shows_42 (by decide) ?_
        have hW := hW.to (w1 := mt_wc g ad lc mc bc (c_X4_shows_N lc mc bc N G x) G o d) (by rw [c_X4_shows_N, if_neg cf_1, if_neg c_4, if_neg c_5])
        exact mt_rz S hr hk rfl hW hS (by rw [c_X4_shows, if_neg cf_1, if_neg c_4, if_neg c_5]) (Nat.le_of_ble_eq_true rfl) (Nat.le_of_ble_eq_true rfl) dX4_shows_44
      · refine lv_bipush (v := 102) hx hb dX4_shows_37 (by decide) ?_
        refine lv_goto (tgt := 44) hx hb dX4_shows_39 (by decide) ?_
        have hW := hW.to (w1 := mt_wc g ad lc mc bc (c_X4_shows_N lc mc bc N G x) G o d) (by rw [c_X4_shows_N, if_neg cf_1, if_neg c_4, if_pos c_5])
        exact mt_rz S hr hk rfl hW hS (by rw [c_X4_shows, if_neg cf_1, if_neg c_4, if_pos c_5]) (Nat.le_of_ble_eq_true rfl) (Nat.le_of_ble_eq_true rfl) dX4_shows_44
    · refine lv_bipush (v := 45) hx hb dX4_shows_22 (by decide) ?_
      refine lv_goto (tgt := 44) hx hb dX4_shows_24 (by decide) ?_
      have hW := hW.to (w1 := mt_wc g ad lc mc bc (c_X4_shows_N lc mc bc N G x) G o d) (by rw [c_X4_shows_N, if_neg cf_1, if_pos c_4])
      exact mt_rz S hr hk rfl hW hS (by rw [c_X4_shows, if_neg cf_1, if_pos c_4]) (Nat.le_of_ble_eq_true rfl) (Nat.le_of_ble_eq_true rfl) dX4_shows_44
def c_X4_layerOf (lc mc bc : Nat) (N G : Nat → Nat → Int32) (x : Int32) : Int32 := if c_X4_isPath x = 0 then (-1) else (if c_X4_shown lc mc bc N G x = -1 then (-1) else ((c_X4_shown lc mc bc N G x) / 341))
def c_X4_layerOf_N (lc mc bc : Nat) (N G : Nat → Nat → Int32) (x : Int32) : Nat → Nat → Int32 := if c_X4_isPath x = 0 then (mt_gu N 200 15 1) else (if c_X4_shown lc mc bc N G x = -1 then (mt_gu N 200 15 2) else (mt_gu N 200 15 0))
set_option maxRecDepth 100000 in
set_option maxHeartbeats 4000000 in
theorem k_X4_layerOf (l : Launch) (hlt : l.stackTraces = false) (g : mt_G) (z : Nat) (ad : Nat → Nat) (lc mc bc : Nat) (N G : Nat → Nat → Int32) (o : Nat → Int64) (d : mt_D) (h6 : lc ≤ 6) (h8 : mc ≤ 8) (hb6 : bc ≤ 6) (x : Int32) (hM : MI N G) : mt_K l g z yX4_layerOf cX4_layerOf 2 (some .int) 5 114 0 0 [.ref (ad (200)), .int x] (mt_wc g ad lc mc bc N G o d) ad (.inr (some (.int (c_X4_layerOf lc mc bc N G x)))) (mt_wc g ad lc mc bc (c_X4_layerOf_N lc mc bc N G x) G o d) ad := by
  refine mt_ofW (by decide +kernel) (Nat.le_of_ble_eq_true rfl) ?_
  intro p e s m args below meth c S hr9 hk hnm hout hC hW hS ls hl
  have hr := hr9
  have hx := S.1
  have hb := S.2.1
  have hl : lv_has ls 2 [(0, .ref (ad (200))), (1, .int (x))] := hl
  refine lv_aload_n hx hb dX4_layerOf_0 rfl (lv_at hl 0 rfl) ?_
  refine lv_iload_n hx hb dX4_layerOf_1 rfl (lv_at hl 1 rfl) ?_
  refine mt_cV1 (As := [.int (x)]) (rest := []) S pv_X4_asksShown mw_ml_X4_131 (k_X4_asksShown l hlt g z ad lc mc bc N G o d h6 h8 hb6 x (by repeat (first | exact hM | exact hP | apply MI_t))) hC hW hS wc_200 rfl rfl rfl hl.1 rfl (Nat.le_of_ble_eq_true rfl) dX4_layerOf_2 ⟨(Nat.le_of_ble_eq_true rfl), (Nat.le_of_ble_eq_true rfl)⟩ ⟨(Nat.le_of_ble_eq_true rfl), (Nat.le_of_ble_eq_true rfl)⟩ rfl (fun H locs hW hS => ?_)
  by_cases cf_1 : c_X4_isPath x = 0
  · refine mt_te (y := 0) (by rw [show c_X4_asksShown lc mc bc N G x = (if c_X4_isPath x = 0 then 0 else if c_X4_shown lc mc bc N G x = -1 then 0 else 1) from rfl, if_pos cf_1]) ?_
    have hW := hW.to (w1 := mt_wc g ad lc mc bc (mt_gu N 200 15 1) G o d) (by rw [if_pos cf_1])
    refine lv_if_eq (tgt := 20) hx hb dX4_layerOf_5 (by decide) (fun c_2 => ?_) (fun c_2 => absurd (by decide) c_2)
    refine lv_iconst (v := -1) hx hb dX4_layerOf_20 (by decide) ?_
    have hW := hW.to (w1 := mt_wc g ad lc mc bc (c_X4_layerOf_N lc mc bc N G x) G o d) (by rw [c_X4_layerOf_N, if_pos cf_1])
    exact mt_ri S hr hk hW hS (by rw [c_X4_layerOf, if_pos cf_1]) (Nat.le_of_ble_eq_true rfl) (Nat.le_of_ble_eq_true rfl) dX4_layerOf_21
  · by_cases cf_3 : c_X4_shown lc mc bc N G x = -1
    · refine mt_te (y := 0) (by rw [show c_X4_asksShown lc mc bc N G x = (if c_X4_isPath x = 0 then 0 else if c_X4_shown lc mc bc N G x = -1 then 0 else 1) from rfl, if_neg cf_1, if_pos cf_3]) ?_
      have hW := hW.to (w1 := mt_wc g ad lc mc bc (mt_gu N 200 15 2) G o d) (by rw [if_neg cf_1, if_pos cf_3])
      refine lv_if_eq (tgt := 20) hx hb dX4_layerOf_5 (by decide) (fun c_4 => ?_) (fun c_4 => absurd (by decide) c_4)
      refine lv_iconst (v := -1) hx hb dX4_layerOf_20 (by decide) ?_
      have hW := hW.to (w1 := mt_wc g ad lc mc bc (c_X4_layerOf_N lc mc bc N G x) G o d) (by rw [c_X4_layerOf_N, if_neg cf_1, if_pos cf_3])
      exact mt_ri S hr hk hW hS (by rw [c_X4_layerOf, if_neg cf_1, if_pos cf_3]) (Nat.le_of_ble_eq_true rfl) (Nat.le_of_ble_eq_true rfl) dX4_layerOf_21
    · refine mt_te (y := 1) (by rw [show c_X4_asksShown lc mc bc N G x = (if c_X4_isPath x = 0 then 0 else if c_X4_shown lc mc bc N G x = -1 then 0 else 1) from rfl, if_neg cf_1, if_neg cf_3]) ?_
      have hW := hW.to (w1 := mt_wc g ad lc mc bc (mt_gu N 200 15 0) G o d) (by rw [if_neg cf_1, if_neg cf_3])
      refine lv_if_eq (tgt := 20) hx hb dX4_layerOf_5 (by decide) (fun c_5 => absurd c_5 (by decide)) (fun c_5 => ?_)
      refine lv_aload_n hx hb dX4_layerOf_8 rfl (lv_at hl 0 rfl) ?_
      refine lv_iload_n hx hb dX4_layerOf_9 rfl (lv_at hl 1 rfl) ?_
      refine mt_cV1 (As := [.int (x)]) (rest := []) S pv_X4_shown mw_ml_X4_107 (k_X4_shown l hlt g z ad lc mc bc (mt_gu N 200 15 0) G o d h6 h8 hb6 x (by repeat (first | exact hM | exact hP | apply MI_t)) (isP_of cf_1)) hC hW hS wc_200 rfl rfl rfl hl.1 rfl (Nat.le_of_ble_eq_true rfl) dX4_layerOf_10 ⟨(Nat.le_of_ble_eq_true rfl), (Nat.le_of_ble_eq_true rfl)⟩ ⟨(Nat.le_of_ble_eq_true rfl), (Nat.le_of_ble_eq_true rfl)⟩ rfl (fun H locs hW hS => ?_)
      refine mt_te (y := c_X4_shown lc mc bc N G x) rfl ?_
      refine lv_sipush (v := 341) hx hb dX4_layerOf_13 (by decide) ?_
      refine lv_idiv hx hb dX4_layerOf_16 (by decide) ?_
      refine lv_goto (tgt := 21) hx hb dX4_layerOf_17 (by decide) ?_
      have hW := hW.to (w1 := mt_wc g ad lc mc bc (c_X4_layerOf_N lc mc bc N G x) G o d) (by rw [c_X4_layerOf_N, if_neg cf_1, if_neg cf_3])
      exact mt_ri S hr hk hW hS (by rw [c_X4_layerOf, if_neg cf_1, if_neg cf_3]) (Nat.le_of_ble_eq_true rfl) (Nat.le_of_ble_eq_true rfl) dX4_layerOf_21
def c_X4_sizeByWalking (lc mc bc : Nat) (N G : Nat → Nat → Int32) (x : Int32) : Int32 := if c_X4_isPath x = 0 then (-1) else (if (c_X4_shown lc mc bc N G x) = (-1) then (-1) else (if (G 201 (c_X4_shown lc mc bc N G x).toNatClampNeg) = 1 then (G 203 (c_X4_shown lc mc bc N G x).toNatClampNeg) else (-1)))
def c_X4_sizeByWalking_N (lc mc bc : Nat) (N G : Nat → Nat → Int32) (x : Int32) : Nat → Nat → Int32 := if c_X4_isPath x = 0 then (mt_gu N 200 15 1) else (if (c_X4_shown lc mc bc N G x) = (-1) then (mt_gu N 200 15 0) else (if (G 201 (c_X4_shown lc mc bc N G x).toNatClampNeg) = 1 then (mt_gu N 200 15 0) else (mt_gu N 200 15 0)))
set_option maxRecDepth 100000 in
set_option maxHeartbeats 4000000 in
theorem k_X4_sizeByWalking (l : Launch) (hlt : l.stackTraces = false) (g : mt_G) (z : Nat) (ad : Nat → Nat) (lc mc bc : Nat) (N G : Nat → Nat → Int32) (o : Nat → Int64) (d : mt_D) (h6 : lc ≤ 6) (h8 : mc ≤ 8) (hb6 : bc ≤ 6) (x : Int32) (hM : MI N G) : mt_K l g z yX4_sizeByWalking cX4_sizeByWalking 3 (some .int) 4 93 0 0 [.ref (ad (200)), .int x] (mt_wc g ad lc mc bc N G o d) ad (.inr (some (.int (c_X4_sizeByWalking lc mc bc N G x)))) (mt_wc g ad lc mc bc (c_X4_sizeByWalking_N lc mc bc N G x) G o d) ad := by
  refine mt_ofW (by decide +kernel) (Nat.le_of_ble_eq_true rfl) ?_
  intro p e s m args below meth c S hr9 hk hnm hout hC hW hS ls hl
  have hr := hr9
  have hx := S.1
  have hb := S.2.1
  have hl : lv_has ls 3 [(0, .ref (ad (200))), (1, .int (x))] := hl
  refine lv_aload_n hx hb dX4_sizeByWalking_0 rfl (lv_at hl 0 rfl) ?_
  refine lv_iload_n hx hb dX4_sizeByWalking_1 rfl (lv_at hl 1 rfl) ?_
  refine mt_cV1 (As := [.int (x)]) (rest := []) S pv_X4_asks mw_ml_X4_128 (k_X4_asks l hlt g z ad lc mc bc N G o d h6 h8 hb6 x) hC hW hS wc_200 rfl rfl rfl hl.1 rfl (Nat.le_of_ble_eq_true rfl) dX4_sizeByWalking_2 ⟨(Nat.le_of_ble_eq_true rfl), (Nat.le_of_ble_eq_true rfl)⟩ ⟨(Nat.le_of_ble_eq_true rfl), (Nat.le_of_ble_eq_true rfl)⟩ rfl (fun H locs hW hS => ?_)
  by_cases cf_1 : c_X4_isPath x = 0
  · refine mt_te (y := 0) (by rw [show c_X4_asks lc mc bc N G x = (if c_X4_isPath x = 0 then 0 else 1) from rfl, if_pos cf_1]) ?_
    have hW := hW.to (w1 := mt_wc g ad lc mc bc (mt_gu N 200 15 1) G o d) (by rw [if_pos cf_1])
    refine lv_if_ne (tgt := 10) hx hb dX4_sizeByWalking_5 (by decide) (fun c_2 => absurd (by decide) c_2) (fun c_2 => ?_)
    refine lv_iconst (v := -1) hx hb dX4_sizeByWalking_8 (by decide) ?_
    have hW := hW.to (w1 := mt_wc g ad lc mc bc (c_X4_sizeByWalking_N lc mc bc N G x) G o d) (by rw [c_X4_sizeByWalking_N, if_pos cf_1])
    exact mt_ri S hr hk hW hS (by rw [c_X4_sizeByWalking, if_pos cf_1]) (Nat.le_of_ble_eq_true rfl) (Nat.le_of_ble_eq_true rfl) dX4_sizeByWalking_9
  · refine mt_te (y := 1) (by rw [show c_X4_asks lc mc bc N G x = (if c_X4_isPath x = 0 then 0 else 1) from rfl, if_neg cf_1]) ?_
    have hW := hW.to (w1 := mt_wc g ad lc mc bc (mt_gu N 200 15 0) G o d) (by rw [if_neg cf_1])
    refine lv_if_ne (tgt := 10) hx hb dX4_sizeByWalking_5 (by decide) (fun c_3 => ?_) (fun c_3 => absurd c_3 (by decide))
    refine lv_aload_n hx hb dX4_sizeByWalking_10 rfl (lv_at hl 0 rfl) ?_
    refine lv_iload_n hx hb dX4_sizeByWalking_11 rfl (lv_at hl 1 rfl) ?_
    refine mt_cV1 (As := [.int (x)]) (rest := []) S pv_X4_shown mw_ml_X4_107 (k_X4_shown l hlt g z ad lc mc bc (mt_gu N 200 15 0) G o d h6 h8 hb6 x (by repeat (first | exact hM | exact hP | apply MI_t)) (isP_of cf_1)) hC hW hS wc_200 rfl rfl rfl hl.1 rfl (Nat.le_of_ble_eq_true rfl) dX4_sizeByWalking_12 ⟨(Nat.le_of_ble_eq_true rfl), (Nat.le_of_ble_eq_true rfl)⟩ ⟨(Nat.le_of_ble_eq_true rfl), (Nat.le_of_ble_eq_true rfl)⟩ rfl (fun H locs hW hS => ?_)
    refine mt_te (y := c_X4_shown lc mc bc N G x) rfl ?_
    refine lv_istore_n (lv' := [(2, .int (c_X4_shown lc mc bc N G x)), (0, .ref (ad (200))), (1, .int (x))]) hx hb dX4_sizeByWalking_15 rfl hl (by decide) rfl (fun ls hl => ?_)
    refine lv_iload_n hx hb dX4_sizeByWalking_16 rfl (lv_at hl 0 rfl) ?_
    refine lv_iconst (v := -1) hx hb dX4_sizeByWalking_17 (by decide) ?_
    refine lv_icmp_eq (tgt := 40) hx hb dX4_sizeByWalking_18 (by decide) (fun c_4 => ?_) (fun c_4 => ?_)
    · refine lv_iconst (v := -1) hx hb dX4_sizeByWalking_40 (by decide) ?_
      have hW := hW.to (w1 := mt_wc g ad lc mc bc (c_X4_sizeByWalking_N lc mc bc N G x) G o d) (by rw [c_X4_sizeByWalking_N, if_neg cf_1, if_pos c_4])
      exact mt_ri S hr hk hW hS (by rw [c_X4_sizeByWalking, if_neg cf_1, if_pos c_4]) (Nat.le_of_ble_eq_true rfl) (Nat.le_of_ble_eq_true rfl) dX4_sizeByWalking_41
    · refine lv_aload_n hx hb dX4_sizeByWalking_21 rfl (lv_at hl 1 rfl) ?_
      refine mt_get S iw_X4 hC hW wc_200 rfl 0 (by decide) mw_fl_X4_7 rfl rfl dX4_sizeByWalking_22 ?_
      refine lv_iload_n hx hb dX4_sizeByWalking_25 rfl (lv_at hl 0 rfl) ?_
      refine wk_iald S hC hW ar_201 (sh_in hM (isP_of cf_1) c_4) dX4_sizeByWalking_26 ?_
      refine lv_iconst (v := 1) hx hb dX4_sizeByWalking_27 (by decide) ?_
      refine lv_icmp_ne (tgt := 40) hx hb dX4_sizeByWalking_28 (by decide) (fun c_5 => ?_) (fun c_5 => ?_)
      · refine lv_iconst (v := -1) hx hb dX4_sizeByWalking_40 (by decide) ?_
        have hW := hW.to (w1 := mt_wc g ad lc mc bc (c_X4_sizeByWalking_N lc mc bc N G x) G o d) (by rw [c_X4_sizeByWalking_N, if_neg cf_1, if_neg c_4, if_neg c_5])
        exact mt_ri S hr hk hW hS (by rw [c_X4_sizeByWalking, if_neg cf_1, if_neg c_4, if_neg c_5]) (Nat.le_of_ble_eq_true rfl) (Nat.le_of_ble_eq_true rfl) dX4_sizeByWalking_41
      · refine lv_aload_n hx hb dX4_sizeByWalking_31 rfl (lv_at hl 1 rfl) ?_
        refine mt_get S iw_X4 hC hW wc_200 rfl 2 (by decide) mw_fl_X4_16 rfl rfl dX4_sizeByWalking_32 ?_
        refine lv_iload_n hx hb dX4_sizeByWalking_35 rfl (lv_at hl 0 rfl) ?_
        refine wk_iald S hC hW ar_203 (sh_in hM (isP_of cf_1) c_4) dX4_sizeByWalking_36 ?_
        refine lv_goto (tgt := 41) hx hb dX4_sizeByWalking_37 (by decide) ?_
        have hW := hW.to (w1 := mt_wc g ad lc mc bc (c_X4_sizeByWalking_N lc mc bc N G x) G o d) (by rw [c_X4_sizeByWalking_N, if_neg cf_1, if_neg c_4, if_pos c_5])
        exact mt_ri S hr hk hW hS (by rw [c_X4_sizeByWalking, if_neg cf_1, if_neg c_4, if_pos c_5]) (Nat.le_of_ble_eq_true rfl) (Nat.le_of_ble_eq_true rfl) dX4_sizeByWalking_41
def c_X4_ownerOf (lc mc bc : Nat) (N G : Nat → Nat → Int32) (x : Int32) : Int32 := if c_X4_isPath x = 0 then (-1) else (if c_X4_shown lc mc bc N G x = -1 then (-1) else (G 202 (c_X4_shown lc mc bc N G x).toNatClampNeg))
def c_X4_ownerOf_N (lc mc bc : Nat) (N G : Nat → Nat → Int32) (x : Int32) : Nat → Nat → Int32 := if c_X4_isPath x = 0 then (mt_gu N 200 15 1) else (if c_X4_shown lc mc bc N G x = -1 then (mt_gu N 200 15 2) else (mt_gu N 200 15 0))
set_option maxRecDepth 100000 in
set_option maxHeartbeats 4000000 in
theorem k_X4_ownerOf (l : Launch) (hlt : l.stackTraces = false) (g : mt_G) (z : Nat) (ad : Nat → Nat) (lc mc bc : Nat) (N G : Nat → Nat → Int32) (o : Nat → Int64) (d : mt_D) (h6 : lc ≤ 6) (h8 : mc ≤ 8) (hb6 : bc ≤ 6) (x : Int32) (hM : MI N G) : mt_K l g z yX4_ownerOf cX4_ownerOf 2 (some .int) 5 114 0 0 [.ref (ad (200)), .int x] (mt_wc g ad lc mc bc N G o d) ad (.inr (some (.int (c_X4_ownerOf lc mc bc N G x)))) (mt_wc g ad lc mc bc (c_X4_ownerOf_N lc mc bc N G x) G o d) ad := by
  refine mt_ofW (by decide +kernel) (Nat.le_of_ble_eq_true rfl) ?_
  intro p e s m args below meth c S hr9 hk hnm hout hC hW hS ls hl
  have hr := hr9
  have hx := S.1
  have hb := S.2.1
  have hl : lv_has ls 2 [(0, .ref (ad (200))), (1, .int (x))] := hl
  refine lv_aload_n hx hb dX4_ownerOf_0 rfl (lv_at hl 0 rfl) ?_
  refine lv_iload_n hx hb dX4_ownerOf_1 rfl (lv_at hl 1 rfl) ?_
  refine mt_cV1 (As := [.int (x)]) (rest := []) S pv_X4_asksShown mw_ml_X4_131 (k_X4_asksShown l hlt g z ad lc mc bc N G o d h6 h8 hb6 x (by repeat (first | exact hM | exact hP | apply MI_t))) hC hW hS wc_200 rfl rfl rfl hl.1 rfl (Nat.le_of_ble_eq_true rfl) dX4_ownerOf_2 ⟨(Nat.le_of_ble_eq_true rfl), (Nat.le_of_ble_eq_true rfl)⟩ ⟨(Nat.le_of_ble_eq_true rfl), (Nat.le_of_ble_eq_true rfl)⟩ rfl (fun H locs hW hS => ?_)
  by_cases cf_1 : c_X4_isPath x = 0
  · refine mt_te (y := 0) (by rw [show c_X4_asksShown lc mc bc N G x = (if c_X4_isPath x = 0 then 0 else if c_X4_shown lc mc bc N G x = -1 then 0 else 1) from rfl, if_pos cf_1]) ?_
    have hW := hW.to (w1 := mt_wc g ad lc mc bc (mt_gu N 200 15 1) G o d) (by rw [if_pos cf_1])
    refine lv_if_eq (tgt := 21) hx hb dX4_ownerOf_5 (by decide) (fun c_2 => ?_) (fun c_2 => absurd (by decide) c_2)
    refine lv_iconst (v := -1) hx hb dX4_ownerOf_21 (by decide) ?_
    have hW := hW.to (w1 := mt_wc g ad lc mc bc (c_X4_ownerOf_N lc mc bc N G x) G o d) (by rw [c_X4_ownerOf_N, if_pos cf_1])
    exact mt_ri S hr hk hW hS (by rw [c_X4_ownerOf, if_pos cf_1]) (Nat.le_of_ble_eq_true rfl) (Nat.le_of_ble_eq_true rfl) dX4_ownerOf_22
  · by_cases cf_3 : c_X4_shown lc mc bc N G x = -1
    · refine mt_te (y := 0) (by rw [show c_X4_asksShown lc mc bc N G x = (if c_X4_isPath x = 0 then 0 else if c_X4_shown lc mc bc N G x = -1 then 0 else 1) from rfl, if_neg cf_1, if_pos cf_3]) ?_
      have hW := hW.to (w1 := mt_wc g ad lc mc bc (mt_gu N 200 15 2) G o d) (by rw [if_neg cf_1, if_pos cf_3])
      refine lv_if_eq (tgt := 21) hx hb dX4_ownerOf_5 (by decide) (fun c_4 => ?_) (fun c_4 => absurd (by decide) c_4)
      refine lv_iconst (v := -1) hx hb dX4_ownerOf_21 (by decide) ?_
      have hW := hW.to (w1 := mt_wc g ad lc mc bc (c_X4_ownerOf_N lc mc bc N G x) G o d) (by rw [c_X4_ownerOf_N, if_neg cf_1, if_pos cf_3])
      exact mt_ri S hr hk hW hS (by rw [c_X4_ownerOf, if_neg cf_1, if_pos cf_3]) (Nat.le_of_ble_eq_true rfl) (Nat.le_of_ble_eq_true rfl) dX4_ownerOf_22
    · refine mt_te (y := 1) (by rw [show c_X4_asksShown lc mc bc N G x = (if c_X4_isPath x = 0 then 0 else if c_X4_shown lc mc bc N G x = -1 then 0 else 1) from rfl, if_neg cf_1, if_neg cf_3]) ?_
      have hW := hW.to (w1 := mt_wc g ad lc mc bc (mt_gu N 200 15 0) G o d) (by rw [if_neg cf_1, if_neg cf_3])
      refine lv_if_eq (tgt := 21) hx hb dX4_ownerOf_5 (by decide) (fun c_5 => absurd c_5 (by decide)) (fun c_5 => ?_)
      refine lv_aload_n hx hb dX4_ownerOf_8 rfl (lv_at hl 0 rfl) ?_
      refine mt_get S iw_X4 hC hW wc_200 rfl 1 (by decide) mw_fl_X4_13 rfl rfl dX4_ownerOf_9 ?_
      refine lv_aload_n hx hb dX4_ownerOf_12 rfl (lv_at hl 0 rfl) ?_
      refine lv_iload_n hx hb dX4_ownerOf_13 rfl (lv_at hl 1 rfl) ?_
      refine mt_cV1 (As := [.int (x)]) (rest := [.ref (ad (202))]) S pv_X4_shown mw_ml_X4_107 (k_X4_shown l hlt g z ad lc mc bc (mt_gu N 200 15 0) G o d h6 h8 hb6 x (by repeat (first | exact hM | exact hP | apply MI_t)) (isP_of cf_1)) hC hW hS wc_200 rfl rfl rfl hl.1 rfl (Nat.le_of_ble_eq_true rfl) dX4_ownerOf_14 ⟨(Nat.le_of_ble_eq_true rfl), (Nat.le_of_ble_eq_true rfl)⟩ ⟨(Nat.le_of_ble_eq_true rfl), (Nat.le_of_ble_eq_true rfl)⟩ rfl (fun H locs hW hS => ?_)
      refine mt_te (y := c_X4_shown lc mc bc N G x) rfl ?_
      refine wk_iald S hC hW ar_202 (sh_in hM (isP_of cf_1) cf_3) dX4_ownerOf_17 ?_
      refine lv_goto (tgt := 22) hx hb dX4_ownerOf_18 (by decide) ?_
      have hW := hW.to (w1 := mt_wc g ad lc mc bc (c_X4_ownerOf_N lc mc bc N G x) G o d) (by rw [c_X4_ownerOf_N, if_neg cf_1, if_neg cf_3])
      exact mt_ri S hr hk hW hS (by rw [c_X4_ownerOf, if_neg cf_1, if_neg cf_3]) (Nat.le_of_ble_eq_true rfl) (Nat.le_of_ble_eq_true rfl) dX4_ownerOf_22
def c_X4_setQuota (lc mc bc : Nat) (N G : Nat → Nat → Int32) (x : Int32) (y : Int32) : Int32 := if (c_X4_isOwner x) = 0 then (-1) else (if (c_inI y 0 99999) = 0 then (-1) else (G 211 x.toNatClampNeg))
def c_X4_setQuota_G (lc mc bc : Nat) (N G : Nat → Nat → Int32) (x : Int32) (y : Int32) : Nat → Nat → Int32 := if (c_X4_isOwner x) = 0 then G else (if (c_inI y 0 99999) = 0 then G else (mt_gu G 211 x.toNatClampNeg y))
def c_X4_setQuota_N (lc mc bc : Nat) (N G : Nat → Nat → Int32) (x : Int32) (y : Int32) : Nat → Nat → Int32 := if (c_X4_isOwner x) = 0 then (mt_gu N 200 15 1) else (if (c_inI y 0 99999) = 0 then (mt_gu N 200 15 1) else (mt_gu N 200 15 0))
set_option maxRecDepth 100000 in
set_option maxHeartbeats 4000000 in
theorem k_X4_setQuota (l : Launch) (hlt : l.stackTraces = false) (g : mt_G) (z : Nat) (ad : Nat → Nat) (lc mc bc : Nat) (N G : Nat → Nat → Int32) (o : Nat → Int64) (d : mt_D) (h6 : lc ≤ 6) (h8 : mc ≤ 8) (hb6 : bc ≤ 6) (x : Int32) (y : Int32)  : mt_K l g z yX4_setQuota cX4_setQuota 4 (some .int) 2 45 0 0 [.ref (ad (200)), .int x, .int y] (mt_wc g ad lc mc bc N G o d) ad (.inr (some (.int (c_X4_setQuota lc mc bc N G x y)))) (mt_wc g ad lc mc bc (c_X4_setQuota_N lc mc bc N G x y) (c_X4_setQuota_G lc mc bc N G x y) o d) ad := by
  refine mt_ofW (by decide +kernel) (Nat.le_of_ble_eq_true rfl) ?_
  intro p e s m args below meth c S hr9 hk hnm hout hC hW hS ls hl
  have hr := hr9
  have hx := S.1
  have hb := S.2.1
  have hl : lv_has ls 4 [(0, .ref (ad (200))), (1, .int (x)), (2, .int (y))] := hl
  refine lv_aload_n hx hb dX4_setQuota_0 rfl (lv_at hl 0 rfl) ?_
  refine lv_iload_n hx hb dX4_setQuota_1 rfl (lv_at hl 1 rfl) ?_
  refine mt_cS1 (As := [.int (x)]) (rest := [.ref (ad (200))]) S ps_X4_isOwner mw_ml_X4_113 (k_X4_isOwner l hlt g z ad lc mc bc N G o d h6 h8 hb6 x) hC hW hS rfl hl.1 rfl (Nat.le_of_ble_eq_true rfl) dX4_setQuota_2 ⟨(Nat.le_of_ble_eq_true rfl), (Nat.le_of_ble_eq_true rfl)⟩ ⟨(Nat.le_of_ble_eq_true rfl), (Nat.le_of_ble_eq_true rfl)⟩ rfl (fun H locs hW hS => ?_)
  refine lv_if_eq (tgt := 24) hx hb dX4_setQuota_5 (by decide) (fun c_1 => ?_) (fun c_1 => ?_)
  · refine lv_iconst (v := 1) hx hb dX4_setQuota_24 (by decide) ?_
    refine mt_put S iw_X4 tyX4 tyX4_ok nmX4 hC hW hS wc_200 rfl 15 (by decide) mw_fl_X4_44 rfl rfl rfl rfl (Nat.le_of_ble_eq_true rfl) dX4_setQuota_25 (fun H locs hW hS => ?_)
    have hW := hW.to (w1 := mt_wc g ad lc mc bc (mt_gu N 200 15 1) G o d) (wc_sett (by decide))
    refine lv_aload_n hx hb dX4_setQuota_28 rfl (lv_at hl 0 rfl) ?_
    refine mt_get S iw_X4 hC hW wc_200 rfl 15 (by decide) mw_fl_X4_44 rfl rfl dX4_setQuota_29 ?_
    refine mt_te (y := 1) rfl ?_
    refine lv_if_le (tgt := 37) hx hb dX4_setQuota_32 (by decide) (fun c_2 => absurd c_2 (by decide)) (fun c_2 => ?_)
    refine lv_iconst (v := -1) hx hb dX4_setQuota_35 (by decide) ?_
    have hW := hW.to (w1 := mt_wc g ad lc mc bc (c_X4_setQuota_N lc mc bc N G x y) (c_X4_setQuota_G lc mc bc N G x y) o d) (by rw [c_X4_setQuota_N, if_pos c_1, c_X4_setQuota_G, if_pos c_1])
    exact mt_ri S hr hk hW hS (by rw [c_X4_setQuota, if_pos c_1]) (Nat.le_of_ble_eq_true rfl) (Nat.le_of_ble_eq_true rfl) dX4_setQuota_36
  · refine lv_iload_n hx hb dX4_setQuota_8 rfl (lv_at hl 2 rfl) ?_
    refine lv_i2l (v := y.toInt64) hx hb dX4_setQuota_9 rfl ?_
    refine lv_lconst (v := 0) hx hb dX4_setQuota_10 (by decide) ?_
    refine lv_ldc2 hx hb S.2.2.2.1 (S.2.2.2.2 _ (List.mem_cons_of_mem _ mw_cn_X4_137)) dX4_setQuota_11 ?_
    refine mt_cS1 (As := [.long (y.toInt64), .long (0), .long (99999)]) (rest := [.ref (ad (200))]) S ps_X4_in mw_ml_X4_50 (k_X4_in l hlt g z ad lc mc bc N G o d h6 h8 hb6 y.toInt64 0 99999) hC hW hS rfl hl.1 rfl (Nat.le_of_ble_eq_true rfl) dX4_setQuota_14 ⟨(Nat.le_of_ble_eq_true rfl), (Nat.le_of_ble_eq_true rfl)⟩ ⟨(Nat.le_of_ble_eq_true rfl), (Nat.le_of_ble_eq_true rfl)⟩ rfl (fun H locs hW hS => ?_)
    refine mt_te (y := c_inI y 0 99999) (in_s (lo := 0) (hi := 99999)) ?_
    refine lv_if_eq (tgt := 24) hx hb dX4_setQuota_17 (by decide) (fun c_3 => ?_) (fun c_3 => ?_)
    · refine lv_iconst (v := 1) hx hb dX4_setQuota_24 (by decide) ?_
      refine mt_put S iw_X4 tyX4 tyX4_ok nmX4 hC hW hS wc_200 rfl 15 (by decide) mw_fl_X4_44 rfl rfl rfl rfl (Nat.le_of_ble_eq_true rfl) dX4_setQuota_25 (fun H locs hW hS => ?_)
      have hW := hW.to (w1 := mt_wc g ad lc mc bc (mt_gu N 200 15 1) G o d) (wc_sett (by decide))
      refine lv_aload_n hx hb dX4_setQuota_28 rfl (lv_at hl 0 rfl) ?_
      refine mt_get S iw_X4 hC hW wc_200 rfl 15 (by decide) mw_fl_X4_44 rfl rfl dX4_setQuota_29 ?_
      refine mt_te (y := 1) rfl ?_
      refine lv_if_le (tgt := 37) hx hb dX4_setQuota_32 (by decide) (fun c_4 => absurd c_4 (by decide)) (fun c_4 => ?_)
      refine lv_iconst (v := -1) hx hb dX4_setQuota_35 (by decide) ?_
      have hW := hW.to (w1 := mt_wc g ad lc mc bc (c_X4_setQuota_N lc mc bc N G x y) (c_X4_setQuota_G lc mc bc N G x y) o d) (by rw [c_X4_setQuota_N, if_neg c_1, if_pos c_3, c_X4_setQuota_G, if_neg c_1, if_pos c_3])
      exact mt_ri S hr hk hW hS (by rw [c_X4_setQuota, if_neg c_1, if_pos c_3]) (Nat.le_of_ble_eq_true rfl) (Nat.le_of_ble_eq_true rfl) dX4_setQuota_36
    · refine lv_iconst (v := 0) hx hb dX4_setQuota_20 (by decide) ?_
      refine lv_goto (tgt := 25) hx hb dX4_setQuota_21 (by decide) ?_
      refine mt_put S iw_X4 tyX4 tyX4_ok nmX4 hC hW hS wc_200 rfl 15 (by decide) mw_fl_X4_44 rfl rfl rfl rfl (Nat.le_of_ble_eq_true rfl) dX4_setQuota_25 (fun H locs hW hS => ?_)
      have hW := hW.to (w1 := mt_wc g ad lc mc bc (mt_gu N 200 15 0) G o d) (wc_sett (by decide))
      refine lv_aload_n hx hb dX4_setQuota_28 rfl (lv_at hl 0 rfl) ?_
      refine mt_get S iw_X4 hC hW wc_200 rfl 15 (by decide) mw_fl_X4_44 rfl rfl dX4_setQuota_29 ?_
      refine mt_te (y := 0) rfl ?_
      refine lv_if_le (tgt := 37) hx hb dX4_setQuota_32 (by decide) (fun c_5 => ?_) (fun c_5 => absurd (by decide) c_5)
      refine lv_aload_n hx hb dX4_setQuota_37 rfl (lv_at hl 0 rfl) ?_
      refine mt_get S iw_X4 hC hW wc_200 rfl 10 (by decide) mw_fl_X4_35 rfl rfl dX4_setQuota_38 ?_
      refine lv_iload_n hx hb dX4_setQuota_41 rfl (lv_at hl 1 rfl) ?_
      refine wk_iald S hC hW ar_211 (ow_in c_1) dX4_setQuota_42 ?_
      refine lv_istore_n (lv' := [(3, .int (G 211 x.toNatClampNeg)), (0, .ref (ad (200))), (1, .int (x)), (2, .int (y))]) hx hb dX4_setQuota_43 rfl hl (by decide) rfl (fun ls hl => ?_)
      refine lv_aload_n hx hb dX4_setQuota_44 rfl (lv_at hl 1 rfl) ?_
      refine mt_get S iw_X4 hC hW wc_200 rfl 10 (by decide) mw_fl_X4_35 rfl rfl dX4_setQuota_45 ?_
      refine lv_iload_n hx hb dX4_setQuota_48 rfl (lv_at hl 2 rfl) ?_
      refine lv_iload_n hx hb dX4_setQuota_49 rfl (lv_at hl 3 rfl) ?_
      refine wk_iast S hC hW hS ar_211 (ow_in c_1) dX4_setQuota_50 (fun H locs hW hS => ?_)
      refine lv_iload_n hx hb dX4_setQuota_51 rfl (lv_at hl 0 rfl) ?_
      have hW := hW.to (w1 := mt_wc g ad lc mc bc (c_X4_setQuota_N lc mc bc N G x y) (c_X4_setQuota_G lc mc bc N G x y) o d) (by rw [c_X4_setQuota_N, if_neg c_1, if_neg c_3, c_X4_setQuota_G, if_neg c_1, if_neg c_3])
      exact mt_ri S hr hk hW hS (by rw [c_X4_setQuota, if_neg c_1, if_neg c_3]) (Nat.le_of_ble_eq_true rfl) (Nat.le_of_ble_eq_true rfl) dX4_setQuota_52
def c_X4_used_ (lc mc bc : Nat) (N G : Nat → Nat → Int32) (x : Int32) : Int32 := if (c_X4_isOwner x) = 0 then (-1) else (c_X4_used lc mc bc N G x (-1))
def c_X4_used__N (lc mc bc : Nat) (N G : Nat → Nat → Int32) (x : Int32) : Nat → Nat → Int32 := if (c_X4_isOwner x) = 0 then (mt_gu N 200 15 1) else (mt_gu N 200 15 0)
set_option maxRecDepth 100000 in
set_option maxHeartbeats 4000000 in
theorem k_X4_used_ (l : Launch) (hlt : l.stackTraces = false) (g : mt_G) (z : Nat) (ad : Nat → Nat) (lc mc bc : Nat) (N G : Nat → Nat → Int32) (o : Nat → Int64) (d : mt_D) (h6 : lc ≤ 6) (h8 : mc ≤ 8) (hb6 : bc ≤ 6) (x : Int32)  : mt_K l g z yX4_used_ cX4_used_ 2 (some .int) 2 45 0 0 [.ref (ad (200)), .int x] (mt_wc g ad lc mc bc N G o d) ad (.inr (some (.int (c_X4_used_ lc mc bc N G x)))) (mt_wc g ad lc mc bc (c_X4_used__N lc mc bc N G x) G o d) ad := by
  refine mt_ofW (by decide +kernel) (Nat.le_of_ble_eq_true rfl) ?_
  intro p e s m args below meth c S hr9 hk hnm hout hC hW hS ls hl
  have hr := hr9
  have hx := S.1
  have hb := S.2.1
  have hl : lv_has ls 2 [(0, .ref (ad (200))), (1, .int (x))] := hl
  refine lv_aload_n hx hb dX4_used__0 rfl (lv_at hl 0 rfl) ?_
  refine lv_iload_n hx hb dX4_used__1 rfl (lv_at hl 1 rfl) ?_
  refine mt_cS1 (As := [.int (x)]) (rest := [.ref (ad (200))]) S ps_X4_isOwner mw_ml_X4_113 (k_X4_isOwner l hlt g z ad lc mc bc N G o d h6 h8 hb6 x) hC hW hS rfl hl.1 rfl (Nat.le_of_ble_eq_true rfl) dX4_used__2 ⟨(Nat.le_of_ble_eq_true rfl), (Nat.le_of_ble_eq_true rfl)⟩ ⟨(Nat.le_of_ble_eq_true rfl), (Nat.le_of_ble_eq_true rfl)⟩ rfl (fun H locs hW hS => ?_)
  refine lv_if_eq (tgt := 12) hx hb dX4_used__5 (by decide) (fun c_1 => ?_) (fun c_1 => ?_)
  · refine lv_iconst (v := 1) hx hb dX4_used__12 (by decide) ?_
    refine mt_put S iw_X4 tyX4 tyX4_ok nmX4 hC hW hS wc_200 rfl 15 (by decide) mw_fl_X4_44 rfl rfl rfl rfl (Nat.le_of_ble_eq_true rfl) dX4_used__13 (fun H locs hW hS => ?_)
    have hW := hW.to (w1 := mt_wc g ad lc mc bc (mt_gu N 200 15 1) G o d) (wc_sett (by decide))
    refine lv_aload_n hx hb dX4_used__16 rfl (lv_at hl 0 rfl) ?_
    refine mt_get S iw_X4 hC hW wc_200 rfl 15 (by decide) mw_fl_X4_44 rfl rfl dX4_used__17 ?_
    refine mt_te (y := 1) rfl ?_
    refine lv_if_ne (tgt := 32) hx hb dX4_used__20 (by decide) (fun c_2 => ?_) (fun c_2 => absurd c_2 (by decide))
    refine lv_iconst (v := -1) hx hb dX4_used__32 (by decide) ?_
    have hW := hW.to (w1 := mt_wc g ad lc mc bc (c_X4_used__N lc mc bc N G x) G o d) (by rw [c_X4_used__N, if_pos c_1])
    exact mt_ri S hr hk hW hS (by rw [c_X4_used_, if_pos c_1]) (Nat.le_of_ble_eq_true rfl) (Nat.le_of_ble_eq_true rfl) dX4_used__33
  · refine lv_iconst (v := 0) hx hb dX4_used__8 (by decide) ?_
    refine lv_goto (tgt := 13) hx hb dX4_used__9 (by decide) ?_
    refine mt_put S iw_X4 tyX4 tyX4_ok nmX4 hC hW hS wc_200 rfl 15 (by decide) mw_fl_X4_44 rfl rfl rfl rfl (Nat.le_of_ble_eq_true rfl) dX4_used__13 (fun H locs hW hS => ?_)
    have hW := hW.to (w1 := mt_wc g ad lc mc bc (mt_gu N 200 15 0) G o d) (wc_sett (by decide))
    refine lv_aload_n hx hb dX4_used__16 rfl (lv_at hl 0 rfl) ?_
    refine mt_get S iw_X4 hC hW wc_200 rfl 15 (by decide) mw_fl_X4_44 rfl rfl dX4_used__17 ?_
    refine mt_te (y := 0) rfl ?_
    refine lv_if_ne (tgt := 32) hx hb dX4_used__20 (by decide) (fun c_3 => absurd (by decide) c_3) (fun c_3 => ?_)
    refine lv_aload_n hx hb dX4_used__23 rfl (lv_at hl 0 rfl) ?_
    refine lv_iload_n hx hb dX4_used__24 rfl (lv_at hl 1 rfl) ?_
    refine lv_iconst (v := -1) hx hb dX4_used__25 (by decide) ?_
    refine mt_cV1 (As := [.int (x), .int (-1)]) (rest := []) S pv_X4_used mw_ml_X4_121 (k_X4_used l hlt g z ad lc mc bc (mt_gu N 200 15 0) G o d h6 h8 hb6 x (-1)) hC hW hS wc_200 rfl rfl rfl hl.1 rfl (Nat.le_of_ble_eq_true rfl) dX4_used__26 ⟨(Nat.le_of_ble_eq_true rfl), (Nat.le_of_ble_eq_true rfl)⟩ ⟨(Nat.le_of_ble_eq_true rfl), (Nat.le_of_ble_eq_true rfl)⟩ rfl (fun H locs hW hS => ?_)
    refine mt_te (y := c_X4_used lc mc bc N G x (-1)) rfl ?_
    refine lv_goto (tgt := 33) hx hb dX4_used__29 (by decide) ?_
    have hW := hW.to (w1 := mt_wc g ad lc mc bc (c_X4_used__N lc mc bc N G x) G o d) (by rw [c_X4_used__N, if_neg c_1])
    exact mt_ri S hr hk hW hS (by rw [c_X4_used_, if_neg c_1]) (Nat.le_of_ble_eq_true rfl) (Nat.le_of_ble_eq_true rfl) dX4_used__33
def c_X4_usedByLayers (lc mc bc : Nat) (N G : Nat → Nat → Int32) (x : Int32) : Int32 := c_X4_used_ lc mc bc N G x
def c_X4_usedByLayers_N (lc mc bc : Nat) (N G : Nat → Nat → Int32) (x : Int32) : Nat → Nat → Int32 := c_X4_used__N lc mc bc N G x
set_option maxRecDepth 100000 in
set_option maxHeartbeats 4000000 in
theorem k_X4_usedByLayers (l : Launch) (hlt : l.stackTraces = false) (g : mt_G) (z : Nat) (ad : Nat → Nat) (lc mc bc : Nat) (N G : Nat → Nat → Int32) (o : Nat → Int64) (d : mt_D) (h6 : lc ≤ 6) (h8 : mc ≤ 8) (hb6 : bc ≤ 6) (x : Int32)  : mt_K l g z yX4_usedByLayers cX4_usedByLayers 2 (some .int) 3 66 0 0 [.ref (ad (200)), .int x] (mt_wc g ad lc mc bc N G o d) ad (.inr (some (.int (c_X4_usedByLayers lc mc bc N G x)))) (mt_wc g ad lc mc bc (c_X4_usedByLayers_N lc mc bc N G x) G o d) ad := by
  refine mt_ofW (by decide +kernel) (Nat.le_of_ble_eq_true rfl) ?_
  intro p e s m args below meth c S hr9 hk hnm hout hC hW hS ls hl
  have hr := hr9
  have hx := S.1
  have hb := S.2.1
  have hl : lv_has ls 2 [(0, .ref (ad (200))), (1, .int (x))] := hl
  refine lv_aload_n hx hb dX4_usedByLayers_0 rfl (lv_at hl 0 rfl) ?_
  refine lv_iload_n hx hb dX4_usedByLayers_1 rfl (lv_at hl 1 rfl) ?_
  refine mt_cV1 (As := [.int (x)]) (rest := []) S pv_X4_used_ mw_ml_X4_139 (k_X4_used_ l hlt g z ad lc mc bc N G o d h6 h8 hb6 x) hC hW hS wc_200 rfl rfl rfl hl.1 rfl (Nat.le_of_ble_eq_true rfl) dX4_usedByLayers_2 ⟨(Nat.le_of_ble_eq_true rfl), (Nat.le_of_ble_eq_true rfl)⟩ ⟨(Nat.le_of_ble_eq_true rfl), (Nat.le_of_ble_eq_true rfl)⟩ rfl (fun H locs hW hS => ?_)
  have hW := hW.to (w1 := mt_wc g ad lc mc bc (c_X4_usedByLayers_N lc mc bc N G x) G o d) (by rw [c_X4_usedByLayers_N])
  exact mt_ri S hr hk hW hS (by rw [c_X4_usedByLayers]) (Nat.le_of_ble_eq_true rfl) (Nat.le_of_ble_eq_true rfl) dX4_usedByLayers_5
def c_X4_copies (lc mc bc : Nat) (N G : Nat → Nat → Int32)  : Int32 := N 200 11
def c_X4_copies_N (lc mc bc : Nat) (N G : Nat → Nat → Int32)  : Nat → Nat → Int32 := mt_gu N 200 15 0
set_option maxRecDepth 100000 in
set_option maxHeartbeats 4000000 in
theorem k_X4_copies (l : Launch) (hlt : l.stackTraces = false) (g : mt_G) (z : Nat) (ad : Nat → Nat) (lc mc bc : Nat) (N G : Nat → Nat → Int32) (o : Nat → Int64) (d : mt_D) (h6 : lc ≤ 6) (h8 : mc ≤ 8) (hb6 : bc ≤ 6)   : mt_K l g z yX4_copies cX4_copies 1 (some .int) 0 0 0 0 [.ref (ad (200))] (mt_wc g ad lc mc bc N G o d) ad (.inr (some (.int (c_X4_copies lc mc bc N G)))) (mt_wc g ad lc mc bc (c_X4_copies_N lc mc bc N G) G o d) ad := by
  refine mt_ofW (by decide +kernel) (Nat.le_of_ble_eq_true rfl) ?_
  intro p e s m args below meth c S hr9 hk hnm hout hC hW hS ls hl
  have hr := hr9
  have hx := S.1
  have hb := S.2.1
  have hl : lv_has ls 1 [(0, .ref (ad (200)))] := hl
  refine lv_aload_n hx hb dX4_copies_0 rfl (lv_at hl 0 rfl) ?_
  refine lv_iconst (v := 0) hx hb dX4_copies_1 (by decide) ?_
  refine mt_put S iw_X4 tyX4 tyX4_ok nmX4 hC hW hS wc_200 rfl 15 (by decide) mw_fl_X4_44 rfl rfl rfl rfl (Nat.le_of_ble_eq_true rfl) dX4_copies_2 (fun H locs hW hS => ?_)
  have hW := hW.to (w1 := mt_wc g ad lc mc bc (mt_gu N 200 15 0) G o d) (wc_sett (by decide))
  refine lv_aload_n hx hb dX4_copies_5 rfl (lv_at hl 0 rfl) ?_
  refine mt_get S iw_X4 hC hW wc_200 rfl 11 (by decide) mw_fl_X4_110 rfl rfl dX4_copies_6 ?_
  refine mt_te (y := N 200 11) rfl ?_
  have hW := hW.to (w1 := mt_wc g ad lc mc bc (c_X4_copies_N lc mc bc N G) G o d) (by rw [c_X4_copies_N])
  exact mt_ri S hr hk hW hS (by rw [c_X4_copies]) (Nat.le_of_ble_eq_true rfl) (Nat.le_of_ble_eq_true rfl) dX4_copies_9
def c_X4_whiteouts (lc mc bc : Nat) (N G : Nat → Nat → Int32) (x : Int32) : Int32 := if (c_X4_isLayer lc mc bc N G x) = 0 then (-1) else (c_X4_count lc mc bc N G x 3)
def c_X4_whiteouts_N (lc mc bc : Nat) (N G : Nat → Nat → Int32) (x : Int32) : Nat → Nat → Int32 := if (c_X4_isLayer lc mc bc N G x) = 0 then (mt_gu N 200 15 1) else (mt_gu N 200 15 0)
set_option maxRecDepth 100000 in
set_option maxHeartbeats 4000000 in
theorem k_X4_whiteouts (l : Launch) (hlt : l.stackTraces = false) (g : mt_G) (z : Nat) (ad : Nat → Nat) (lc mc bc : Nat) (N G : Nat → Nat → Int32) (o : Nat → Int64) (d : mt_D) (h6 : lc ≤ 6) (h8 : mc ≤ 8) (hb6 : bc ≤ 6) (x : Int32) (hM : MI N G) : mt_K l g z yX4_whiteouts cX4_whiteouts 2 (some .int) 2 46 0 0 [.ref (ad (200)), .int x] (mt_wc g ad lc mc bc N G o d) ad (.inr (some (.int (c_X4_whiteouts lc mc bc N G x)))) (mt_wc g ad lc mc bc (c_X4_whiteouts_N lc mc bc N G x) G o d) ad := by
  refine mt_ofW (by decide +kernel) (Nat.le_of_ble_eq_true rfl) ?_
  intro p e s m args below meth c S hr9 hk hnm hout hC hW hS ls hl
  have hr := hr9
  have hx := S.1
  have hb := S.2.1
  have hl : lv_has ls 2 [(0, .ref (ad (200))), (1, .int (x))] := hl
  refine lv_aload_n hx hb dX4_whiteouts_0 rfl (lv_at hl 0 rfl) ?_
  refine lv_aload_n hx hb dX4_whiteouts_1 rfl (lv_at hl 0 rfl) ?_
  refine lv_iload_n hx hb dX4_whiteouts_2 rfl (lv_at hl 1 rfl) ?_
  refine mt_cV1 (As := [.int (x)]) (rest := [.ref (ad (200))]) S pv_X4_isLayer mw_ml_X4_74 (k_X4_isLayer l hlt g z ad lc mc bc N G o d h6 h8 hb6 x) hC hW hS wc_200 rfl rfl rfl hl.1 rfl (Nat.le_of_ble_eq_true rfl) dX4_whiteouts_3 ⟨(Nat.le_of_ble_eq_true rfl), (Nat.le_of_ble_eq_true rfl)⟩ ⟨(Nat.le_of_ble_eq_true rfl), (Nat.le_of_ble_eq_true rfl)⟩ rfl (fun H locs hW hS => ?_)
  refine lv_if_eq (tgt := 13) hx hb dX4_whiteouts_6 (by decide) (fun c_1 => ?_) (fun c_1 => ?_)
  · refine lv_iconst (v := 1) hx hb dX4_whiteouts_13 (by decide) ?_
    refine mt_put S iw_X4 tyX4 tyX4_ok nmX4 hC hW hS wc_200 rfl 15 (by decide) mw_fl_X4_44 rfl rfl rfl rfl (Nat.le_of_ble_eq_true rfl) dX4_whiteouts_14 (fun H locs hW hS => ?_)
    have hW := hW.to (w1 := mt_wc g ad lc mc bc (mt_gu N 200 15 1) G o d) (wc_sett (by decide))
    refine lv_aload_n hx hb dX4_whiteouts_17 rfl (lv_at hl 0 rfl) ?_
    refine mt_get S iw_X4 hC hW wc_200 rfl 15 (by decide) mw_fl_X4_44 rfl rfl dX4_whiteouts_18 ?_
    refine mt_te (y := 1) rfl ?_
    refine lv_if_ne (tgt := 33) hx hb dX4_whiteouts_21 (by decide) (fun c_2 => ?_) (fun c_2 => absurd c_2 (by decide))
    refine lv_iconst (v := -1) hx hb dX4_whiteouts_33 (by decide) ?_
    have hW := hW.to (w1 := mt_wc g ad lc mc bc (c_X4_whiteouts_N lc mc bc N G x) G o d) (by rw [c_X4_whiteouts_N, if_pos c_1])
    exact mt_ri S hr hk hW hS (by rw [c_X4_whiteouts, if_pos c_1]) (Nat.le_of_ble_eq_true rfl) (Nat.le_of_ble_eq_true rfl) dX4_whiteouts_34
  · refine lv_iconst (v := 0) hx hb dX4_whiteouts_9 (by decide) ?_
    refine lv_goto (tgt := 14) hx hb dX4_whiteouts_10 (by decide) ?_
    refine mt_put S iw_X4 tyX4 tyX4_ok nmX4 hC hW hS wc_200 rfl 15 (by decide) mw_fl_X4_44 rfl rfl rfl rfl (Nat.le_of_ble_eq_true rfl) dX4_whiteouts_14 (fun H locs hW hS => ?_)
    have hW := hW.to (w1 := mt_wc g ad lc mc bc (mt_gu N 200 15 0) G o d) (wc_sett (by decide))
    refine lv_aload_n hx hb dX4_whiteouts_17 rfl (lv_at hl 0 rfl) ?_
    refine mt_get S iw_X4 hC hW wc_200 rfl 15 (by decide) mw_fl_X4_44 rfl rfl dX4_whiteouts_18 ?_
    refine mt_te (y := 0) rfl ?_
    refine lv_if_ne (tgt := 33) hx hb dX4_whiteouts_21 (by decide) (fun c_3 => absurd (by decide) c_3) (fun c_3 => ?_)
    refine lv_aload_n hx hb dX4_whiteouts_24 rfl (lv_at hl 0 rfl) ?_
    refine lv_iload_n hx hb dX4_whiteouts_25 rfl (lv_at hl 1 rfl) ?_
    refine lv_iconst (v := 3) hx hb dX4_whiteouts_26 (by decide) ?_
    refine mt_cV1 (As := [.int (x), .int (3)]) (rest := []) S pv_X4_count mw_ml_X4_148 (k_X4_count l hlt g z ad lc mc bc (mt_gu N 200 15 0) G o d h6 h8 hb6 x 3 (il_1 hM c_1) (il_2 hM c_1)) hC hW hS wc_200 rfl rfl rfl hl.1 rfl (Nat.le_of_ble_eq_true rfl) dX4_whiteouts_27 ⟨(Nat.le_of_ble_eq_true rfl), (Nat.le_of_ble_eq_true rfl)⟩ ⟨(Nat.le_of_ble_eq_true rfl), (Nat.le_of_ble_eq_true rfl)⟩ rfl (fun H locs hW hS => ?_)
    refine mt_te (y := c_X4_count lc mc bc N G x 3) rfl ?_
    refine lv_goto (tgt := 34) hx hb dX4_whiteouts_30 (by decide) ?_
    have hW := hW.to (w1 := mt_wc g ad lc mc bc (c_X4_whiteouts_N lc mc bc N G x) G o d) (by rw [c_X4_whiteouts_N, if_neg c_1])
    exact mt_ri S hr hk hW hS (by rw [c_X4_whiteouts, if_neg c_1]) (Nat.le_of_ble_eq_true rfl) (Nat.le_of_ble_eq_true rfl) dX4_whiteouts_34

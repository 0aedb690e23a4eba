def c_any (f : Nat → Bool) : Nat → Bool | 0 => false | k + 1 => c_any f k || f k
theorem c_any_t {f : Nat → Bool} {k n : Nat} (hk : k < n) (h : f k = true) : c_any f n = true := by
  induction n with
  | zero => exact absurd hk (Nat.not_lt_zero k)
  | succ n ih =>
    rw [c_any]
    rcases Nat.lt_or_ge k n with h1 | h1
    · rw [ih h1]; rfl
    · have e : k = n := by omega
      rw [← e, h, Bool.or_true]
theorem c_any_s {f : Nat → Bool} {k : Nat} (h : c_any f k = false) (h2 : f k = false) : c_any f (k + 1) = false := by rw [c_any, h, h2]; rfl
def c_upAt (lc mc bc : Nat) (N G : Nat → Nat → Int32) (x : Int32) (j : Nat) : Bool := ocase (c_X3_mountThere lc mc bc N G (nI j)) false (fun i => decide (N (150 + i) 1 = x))
def c_inAt (lc mc bc : Nat) (N G : Nat → Nat → Int32) (x : Int32) (j : Nat) : Bool := ocase (c_X3_mountThere lc mc bc N G (nI j)) false (fun i => decide (N (150 + i) 1 = x) || decide (N (150 + i) 0 = x))
def c_X3_isUpperOfSome (lc mc bc : Nat) (N G : Nat → Nat → Int32) (x : Int32) : Int32 := if c_any (c_upAt lc mc bc N G x) mc = true then 1 else 0
def c_X3_isInSome (lc mc bc : Nat) (N G : Nat → Nat → Int32) (x : Int32) : Int32 := if c_any (c_inAt lc mc bc N G x) mc = true then 1 else 0
set_option maxRecDepth 100000 in
set_option maxHeartbeats 4000000 in
theorem k_X3_isUpperOfSome (l : Launch) (hlt : l.stackTraces = false) (g : mt_G) (z : Nat) (ad : Nat → Nat) (lc mc bc : Nat) (N G : Nat → Nat → Int32) (o : Nat → Int64) (d : mt_D) (h6 : lc ≤ 6) (h8 : mc ≤ 8) (hb6 : bc ≤ 6) (x : Int32)  : mt_K l g z yX3_isUpperOfSome cX3_isUpperOfSome 4 (some .boolean) 1 22 0 0 [.ref (ad (0)), .int x] (mt_wc g ad lc mc bc N G o d) ad (.inr (some (.int (c_X3_isUpperOfSome lc mc bc N G x)))) (mt_wc g ad lc mc bc N G o d) ad := by
  refine mt_ofW (by decide +kernel) (Nat.le_of_ble_eq_true rfl) ?_
  intro p e s m args below meth c S hr9 hk hnm hout hC hW hS ls hl
  have hr := hr9
  have hx := S.1
  have hb := S.2.1
  have hl : lv_has ls 4 [(0, .ref (ad (0))), (1, .int (x))] := hl
  refine lv_iconst (v := 0) hx hb dX3_isUpperOfSome_0 (by decide) ?_
  refine lv_istore_n (lv' := [(2, .int (0)), (0, .ref (ad (0))), (1, .int (x))]) hx hb dX3_isUpperOfSome_1 rfl hl (by decide) rfl (fun ls hl => ?_)
  have hl : lv_has ls 4 [(2, .int (nI 0)), (0, .ref (ad (0))), (1, .int (x))] := lv_sub hl [0, 1, 2] rfl
  refine lp_up mc (fun k => mt_wc g ad lc mc bc N G o d) (fun k => [(2, .int (nI k)), (0, .ref (ad (0))), (1, .int (x))]) (fun k => c_any (c_upAt lc mc bc N G x) k = false) 0 (by omega) rfl hW hS hl (fun H locs ls hP hW hS hl => ?_) (fun k H locs ls hk0 hkn hP hW hS hl ih => ?_)
  · have hW : mt_W g z (mt_wc g ad lc mc bc N G o d) ad _ := hW
    have hl : lv_has ls 4 [(2, .int (nI mc)), (0, .ref (ad (0))), (1, .int (x))] := hl
    have hP : c_any (c_upAt lc mc bc N G x) mc = false := hP
    refine lv_iload_n hx hb dX3_isUpperOfSome_2 rfl (lv_at hl 0 rfl) ?_
    refine lv_aload_n hx hb dX3_isUpperOfSome_3 rfl (lv_at hl 1 rfl) ?_
    refine mt_get S iw_X3 hC hW wc_0 rfl 8 (by decide) mw_fl_X3_82 rfl rfl dX3_isUpperOfSome_4 ?_
    refine lv_icmp_ge (tgt := 36) hx hb dX3_isUpperOfSome_7 (by decide) (fun c_1 => ?_) (fun c_1 => absurd (nI_le (a := mc) (b := mc) (Nat.le_refl _) (by omega)) c_1)
    refine lv_iconst (v := 0) hx hb dX3_isUpperOfSome_36 (by decide) ?_
    exact mt_rz S hr hk rfl hW hS (by rw [c_X3_isUpperOfSome, hP]; rfl) (Nat.le_of_ble_eq_true rfl) (Nat.le_of_ble_eq_true rfl) dX3_isUpperOfSome_37
  · have hW : mt_W g z (mt_wc g ad lc mc bc N G o d) ad _ := hW
    have hl : lv_has ls 4 [(2, .int (nI k)), (0, .ref (ad (0))), (1, .int (x))] := hl
    have hP : c_any (c_upAt lc mc bc N G x) k = false := hP
    refine lv_iload_n hx hb dX3_isUpperOfSome_2 rfl (lv_at hl 0 rfl) ?_
    refine lv_aload_n hx hb dX3_isUpperOfSome_3 rfl (lv_at hl 1 rfl) ?_
    refine mt_get S iw_X3 hC hW wc_0 rfl 8 (by decide) mw_fl_X3_82 rfl rfl dX3_isUpperOfSome_4 ?_
    refine lv_icmp_ge (tgt := 36) hx hb dX3_isUpperOfSome_7 (by decide) (fun c_2 => absurd c_2 (nI_ge (a := k) (b := mc) hkn (by omega))) (fun c_2 => ?_)
    refine lv_aload_n hx hb dX3_isUpperOfSome_10 rfl (lv_at hl 1 rfl) ?_
    refine lv_iload_n hx hb dX3_isUpperOfSome_11 rfl (lv_at hl 0 rfl) ?_
    rcases hq_3 : (c_X3_mountThere lc mc bc N G (nI k)) with _ | i_4
    · refine mt_cV1 (v := .null) (As := [.int (nI k)]) (rest := []) S pv_X3_mountThere mw_ml_X3_101 (k_X3_mountThere l hlt g z ad lc mc bc N G o d h6 h8 hb6 (nI k)) hC hW hS wc_0 rfl rfl rfl hl.1 rfl (Nat.le_of_ble_eq_true rfl) dX3_isUpperOfSome_12 ⟨(Nat.le_of_ble_eq_true rfl), (Nat.le_of_ble_eq_true rfl)⟩ ⟨(Nat.le_of_ble_eq_true rfl), (Nat.le_of_ble_eq_true rfl)⟩ (congrArg (a₂ := none) (xr_a ad 150) hq_3) (fun H locs hW hS => ?_)
      refine lv_astore_nN (lv' := [(3, .null), (2, .int (nI k)), (0, .ref (ad (0))), (1, .int (x))]) hx hb dX3_isUpperOfSome_15 rfl hl (by decide) rfl (fun ls hl => ?_)
      refine lv_aload_nN hx hb dX3_isUpperOfSome_16 rfl (lv_at hl 0 rfl) ?_
      refine lv_ifnullN (tgt := 30) hx hb dX3_isUpperOfSome_17 (by decide) ?_
      refine lv_iinc (v := nI (k + 1)) (lv' := [(2, .int (nI (k + 1))), (3, .null), (0, .ref (ad (0))), (1, .int (x))]) hx hb dX3_isUpperOfSome_30 hl (k := 1) rfl (nI_1 _) (by decide) rfl (fun ls hl => ?_)
      refine lv_goto (tgt := 2) hx hb dX3_isUpperOfSome_33 (by decide) ?_
      have hl : lv_has ls 4 [(2, .int (nI (k + 1))), (0, .ref (ad (0))), (1, .int (x))] := lv_sub hl [0, 2, 3] rfl
      exact ih _ _ _ (c_any_s hP (by rw [c_upAt, ocase_n hq_3])) hW hS hl
    · refine mt_cV1 (v := .ref (ad (150 + i_4))) (As := [.int (nI k)]) (rest := []) S pv_X3_mountThere mw_ml_X3_101 (k_X3_mountThere l hlt g z ad lc mc bc N G o d h6 h8 hb6 (nI k)) hC hW hS wc_0 rfl rfl rfl hl.1 rfl (Nat.le_of_ble_eq_true rfl) dX3_isUpperOfSome_12 ⟨(Nat.le_of_ble_eq_true rfl), (Nat.le_of_ble_eq_true rfl)⟩ ⟨(Nat.le_of_ble_eq_true rfl), (Nat.le_of_ble_eq_true rfl)⟩ (congrArg (a₂ := some i_4) (xr_a ad 150) hq_3) (fun H locs hW hS => ?_)
      have hi_i_4 := c_mountThere_lt hq_3
      refine lv_astore_n (lv' := [(3, .ref (ad (150 + i_4))), (2, .int (nI k)), (0, .ref (ad (0))), (1, .int (x))]) hx hb dX3_isUpperOfSome_15 rfl hl (by decide) rfl (fun ls hl => ?_)
      refine lv_aload_n hx hb dX3_isUpperOfSome_16 rfl (lv_at hl 0 rfl) ?_
      refine lv_ifnull hx hb dX3_isUpperOfSome_17 ?_
      refine lv_aload_n hx hb dX3_isUpperOfSome_20 rfl (lv_at hl 0 rfl) ?_
      refine mt_getN S iw_X2 hC hW (wc_mnt h8 hi_i_4) rfl 1 (by decide) mw_fn_X3_158 rfl rfl dX3_isUpperOfSome_21 ?_
      refine lv_iload_n hx hb dX3_isUpperOfSome_24 rfl (lv_at hl 3 rfl) ?_
      refine lv_icmp_ne (tgt := 30) hx hb dX3_isUpperOfSome_25 (by decide) (fun c_5 => ?_) (fun c_5 => ?_)
      · refine lv_iinc (v := nI (k + 1)) (lv' := [(2, .int (nI (k + 1))), (3, .ref (ad (150 + i_4))), (0, .ref (ad (0))), (1, .int (x))]) hx hb dX3_isUpperOfSome_30 hl (k := 1) rfl (nI_1 _) (by decide) rfl (fun ls hl => ?_)
        refine lv_goto (tgt := 2) hx hb dX3_isUpperOfSome_33 (by decide) ?_
        have hl : lv_has ls 4 [(2, .int (nI (k + 1))), (0, .ref (ad (0))), (1, .int (x))] := lv_sub hl [0, 2, 3] rfl
        exact ih _ _ _ (c_any_s hP (by rw [c_upAt, ocase_s hq_3, decide_eq_false c_5])) hW hS hl
      · refine lv_iconst (v := 1) hx hb dX3_isUpperOfSome_28 (by decide) ?_
        exact mt_rz S hr hk rfl hW hS (by rw [c_X3_isUpperOfSome, if_pos (c_any_t hkn (by rw [c_upAt, ocase_s hq_3, decide_eq_true c_5]))]) (Nat.le_of_ble_eq_true rfl) (Nat.le_of_ble_eq_true rfl) dX3_isUpperOfSome_29
set_option maxRecDepth 100000 in
set_option maxHeartbeats 4000000 in
theorem k_X3_isInSome (l : Launch) (hlt : l.stackTraces = false) (g : mt_G) (z : Nat) (ad : Nat → Nat) (lc mc bc : Nat) (N G : Nat → Nat → Int32) (o : Nat → Int64) (d : mt_D) (h6 : lc ≤ 6) (h8 : mc ≤ 8) (hb6 : bc ≤ 6) (x : Int32)  : mt_K l g z yX3_isInSome cX3_isInSome 4 (some .boolean) 1 22 0 0 [.ref (ad (0)), .int x] (mt_wc g ad lc mc bc N G o d) ad (.inr (some (.int (c_X3_isInSome lc mc bc N G x)))) (mt_wc g ad lc mc bc N G o d) ad := by
  refine mt_ofW (by decide +kernel) (Nat.le_of_ble_eq_true rfl) ?_
  intro p e s m args below meth c S hr9 hk hnm hout hC hW hS ls hl
  have hr := hr9
  have hx := S.1
  have hb := S.2.1
  have hl : lv_has ls 4 [(0, .ref (ad (0))), (1, .int (x))] := hl
  refine lv_iconst (v := 0) hx hb dX3_isInSome_0 (by decide) ?_
  refine lv_istore_n (lv' := [(2, .int (0)), (0, .ref (ad (0))), (1, .int (x))]) hx hb dX3_isInSome_1 rfl hl (by decide) rfl (fun ls hl => ?_)
  have hl : lv_has ls 4 [(2, .int (nI 0)), (0, .ref (ad (0))), (1, .int (x))] := lv_sub hl [0, 1, 2] rfl
  refine lp_up mc (fun k => mt_wc g ad lc mc bc N G o d) (fun k => [(2, .int (nI k)), (0, .ref (ad (0))), (1, .int (x))]) (fun k => c_any (c_inAt lc mc bc N G x) k = false) 0 (by omega) rfl hW hS hl (fun H locs ls hP hW hS hl => ?_) (fun k H locs ls hk0 hkn hP hW hS hl ih => ?_)
  · have hW : mt_W g z (mt_wc g ad lc mc bc N G o d) ad _ := hW
    have hl : lv_has ls 4 [(2, .int (nI mc)), (0, .ref (ad (0))), (1, .int (x))] := hl
    have hP : c_any (c_inAt lc mc bc N G x) mc = false := hP
    refine lv_iload_n hx hb dX3_isInSome_2 rfl (lv_at hl 0 rfl) ?_
    refine lv_aload_n hx hb dX3_isInSome_3 rfl (lv_at hl 1 rfl) ?_
    refine mt_get S iw_X3 hC hW wc_0 rfl 8 (by decide) mw_fl_X3_82 rfl rfl dX3_isInSome_4 ?_
    refine lv_icmp_ge (tgt := 44) hx hb dX3_isInSome_7 (by decide) (fun c_1 => ?_) (fun c_1 => absurd (nI_le (a := mc) (b := mc) (Nat.le_refl _) (by omega)) c_1)
    refine lv_iconst (v := 0) hx hb dX3_isInSome_44 (by decide) ?_
    exact mt_rz S hr hk rfl hW hS (by rw [c_X3_isInSome, hP]; rfl) (Nat.le_of_ble_eq_true rfl) (Nat.le_of_ble_eq_true rfl) dX3_isInSome_45
  · have hW : mt_W g z (mt_wc g ad lc mc bc N G o d) ad _ := hW
    have hl : lv_has ls 4 [(2, .int (nI k)), (0, .ref (ad (0))), (1, .int (x))] := hl
    have hP : c_any (c_inAt lc mc bc N G x) k = false := hP
    refine lv_iload_n hx hb dX3_isInSome_2 rfl (lv_at hl 0 rfl) ?_
    refine lv_aload_n hx hb dX3_isInSome_3 rfl (lv_at hl 1 rfl) ?_
    refine mt_get S iw_X3 hC hW wc_0 rfl 8 (by decide) mw_fl_X3_82 rfl rfl dX3_isInSome_4 ?_
    refine lv_icmp_ge (tgt := 44) hx hb dX3_isInSome_7 (by decide) (fun c_2 => absurd c_2 (nI_ge (a := k) (b := mc) hkn (by omega))) (fun c_2 => ?_)
    refine lv_aload_n hx hb dX3_isInSome_10 rfl (lv_at hl 1 rfl) ?_
    refine lv_iload_n hx hb dX3_isInSome_11 rfl (lv_at hl 0 rfl) ?_
    rcases hq_3 : (c_X3_mountThere lc mc bc N G (nI k)) with _ | i_4
    · refine mt_cV1 (v := .null) (As := [.int (nI k)]) (rest := []) S pv_X3_mountThere mw_ml_X3_101 (k_X3_mountThere l hlt g z ad lc mc bc N G o d h6 h8 hb6 (nI k)) hC hW hS wc_0 rfl rfl rfl hl.1 rfl (Nat.le_of_ble_eq_true rfl) dX3_isInSome_12 ⟨(Nat.le_of_ble_eq_true rfl), (Nat.le_of_ble_eq_true rfl)⟩ ⟨(Nat.le_of_ble_eq_true rfl), (Nat.le_of_ble_eq_true rfl)⟩ (congrArg (a₂ := none) (xr_a ad 150) hq_3) (fun H locs hW hS => ?_)
      refine lv_astore_nN (lv' := [(3, .null), (2, .int (nI k)), (0, .ref (ad (0))), (1, .int (x))]) hx hb dX3_isInSome_15 rfl hl (by decide) rfl (fun ls hl => ?_)
      refine lv_aload_nN hx hb dX3_isInSome_16 rfl (lv_at hl 0 rfl) ?_
      refine lv_ifnullN (tgt := 38) hx hb dX3_isInSome_17 (by decide) ?_
      refine lv_iinc (v := nI (k + 1)) (lv' := [(2, .int (nI (k + 1))), (3, .null), (0, .ref (ad (0))), (1, .int (x))]) hx hb dX3_isInSome_38 hl (k := 1) rfl (nI_1 _) (by decide) rfl (fun ls hl => ?_)
      refine lv_goto (tgt := 2) hx hb dX3_isInSome_41 (by decide) ?_
      have hl : lv_has ls 4 [(2, .int (nI (k + 1))), (0, .ref (ad (0))), (1, .int (x))] := lv_sub hl [0, 2, 3] rfl
      exact ih _ _ _ (c_any_s hP (by rw [c_inAt, ocase_n hq_3])) hW hS hl
    · refine mt_cV1 (v := .ref (ad (150 + i_4))) (As := [.int (nI k)]) (rest := []) S pv_X3_mountThere mw_ml_X3_101 (k_X3_mountThere l hlt g z ad lc mc bc N G o d h6 h8 hb6 (nI k)) hC hW hS wc_0 rfl rfl rfl hl.1 rfl (Nat.le_of_ble_eq_true rfl) dX3_isInSome_12 ⟨(Nat.le_of_ble_eq_true rfl), (Nat.le_of_ble_eq_true rfl)⟩ ⟨(Nat.le_of_ble_eq_true rfl), (Nat.le_of_ble_eq_true rfl)⟩ (congrArg (a₂ := some i_4) (xr_a ad 150) hq_3) (fun H locs hW hS => ?_)
      have hi_i_4 := c_mountThere_lt hq_3
      refine lv_astore_n (lv' := [(3, .ref (ad (150 + i_4))), (2, .int (nI k)), (0, .ref (ad (0))), (1, .int (x))]) hx hb dX3_isInSome_15 rfl hl (by decide) rfl (fun ls hl => ?_)
      refine lv_aload_n hx hb dX3_isInSome_16 rfl (lv_at hl 0 rfl) ?_
      refine lv_ifnull hx hb dX3_isInSome_17 ?_
      refine lv_aload_n hx hb dX3_isInSome_20 rfl (lv_at hl 0 rfl) ?_
      refine mt_getN S iw_X2 hC hW (wc_mnt h8 hi_i_4) rfl 1 (by decide) mw_fn_X3_158 rfl rfl dX3_isInSome_21 ?_
      refine lv_iload_n hx hb dX3_isInSome_24 rfl (lv_at hl 3 rfl) ?_
      refine lv_icmp_eq (tgt := 36) hx hb dX3_isInSome_25 (by decide) (fun c_5 => ?_) (fun c_5 => ?_)
      · refine lv_iconst (v := 1) hx hb dX3_isInSome_36 (by decide) ?_
        exact mt_rz S hr hk rfl hW hS (by rw [c_X3_isInSome, if_pos (c_any_t hkn (by rw [c_inAt, ocase_s hq_3, decide_eq_true c_5, Bool.true_or]))]) (Nat.le_of_ble_eq_true rfl) (Nat.le_of_ble_eq_true rfl) dX3_isInSome_37
      · refine lv_aload_n hx hb dX3_isInSome_28 rfl (lv_at hl 0 rfl) ?_
        refine mt_getN S iw_X2 hC hW (wc_mnt h8 hi_i_4) rfl 0 (by decide) mw_fn_X3_161 rfl rfl dX3_isInSome_29 ?_
        refine lv_iload_n hx hb dX3_isInSome_32 rfl (lv_at hl 3 rfl) ?_
        refine lv_icmp_ne (tgt := 38) hx hb dX3_isInSome_33 (by decide) (fun c_6 => ?_) (fun c_6 => ?_)
        · refine lv_iinc (v := nI (k + 1)) (lv' := [(2, .int (nI (k + 1))), (3, .ref (ad (150 + i_4))), (0, .ref (ad (0))), (1, .int (x))]) hx hb dX3_isInSome_38 hl (k := 1) rfl (nI_1 _) (by decide) rfl (fun ls hl => ?_)
          refine lv_goto (tgt := 2) hx hb dX3_isInSome_41 (by decide) ?_
          have hl : lv_has ls 4 [(2, .int (nI (k + 1))), (0, .ref (ad (0))), (1, .int (x))] := lv_sub hl [0, 2, 3] rfl
          exact ih _ _ _ (c_any_s hP (by rw [c_inAt, ocase_s hq_3, decide_eq_false c_5, decide_eq_false c_6, Bool.or_false])) hW hS hl
        · refine lv_iconst (v := 1) hx hb dX3_isInSome_36 (by decide) ?_
          exact mt_rz S hr hk rfl hW hS (by rw [c_X3_isInSome, if_pos (c_any_t hkn (by rw [c_inAt, ocase_s hq_3, decide_eq_true c_6, Bool.or_true]))]) (Nat.le_of_ble_eq_true rfl) (Nat.le_of_ble_eq_true rfl) dX3_isInSome_37
def c_X3_serveBehind_l4G (lc mc bc : Nat) (N G : Nat → Nat → Int32) (x : Int32) (v : Int32) : Nat → Nat → Nat → Int32
  | 0 => G
  | k + 1 => if (c_X3_isPlace ((x * 256) + (nI (85 + k)))) = 0 then (c_X3_serveBehind_l4G lc mc bc N G x v k) else (mt_gu (mt_gu (c_X3_serveBehind_l4G lc mc bc N G x v k) 6 ((x * 256) + (nI (85 + k))).toNatClampNeg v) 7 ((x * 256) + (nI (85 + k))).toNatClampNeg (nI (85 + k)))
def c_X3_serveBehind_l3G (lc mc bc : Nat) (N G : Nat → Nat → Int32) (x : Int32) (v : Int32) : Nat → Nat → Nat → Int32
  | 0 => G
  | k + 1 => if (c_X3_isPlace ((x * 64) + (nI (21 + k)))) = 0 then (c_X3_serveBehind_l3G lc mc bc N G x v k) else (mt_gu (mt_gu (c_X3_serveBehind_l3G lc mc bc N G x v k) 6 ((x * 64) + (nI (21 + k))).toNatClampNeg v) 7 ((x * 64) + (nI (21 + k))).toNatClampNeg (nI (21 + k)))
def c_X3_serveBehind_l2G (lc mc bc : Nat) (N G : Nat → Nat → Int32) (x : Int32) (v : Int32) : Nat → Nat → Nat → Int32
  | 0 => G
  | k + 1 => if (c_X3_isPlace ((x * 16) + (nI (5 + k)))) = 0 then (c_X3_serveBehind_l2G lc mc bc N G x v k) else (mt_gu (mt_gu (c_X3_serveBehind_l2G lc mc bc N G x v k) 6 ((x * 16) + (nI (5 + k))).toNatClampNeg v) 7 ((x * 16) + (nI (5 + k))).toNatClampNeg (nI (5 + k)))
def c_X3_serveBehind_l1G (lc mc bc : Nat) (N G : Nat → Nat → Int32) (x : Int32) (v : Int32) : Nat → Nat → Nat → Int32
  | 0 => G
  | k + 1 => if (c_X3_isPlace ((x * 4) + (nI (1 + k)))) = 0 then (c_X3_serveBehind_l1G lc mc bc N G x v k) else (mt_gu (mt_gu (c_X3_serveBehind_l1G lc mc bc N G x v k) 6 ((x * 4) + (nI (1 + k))).toNatClampNeg v) 7 ((x * 4) + (nI (1 + k))).toNatClampNeg (nI (1 + k)))
def c_X3_serveBehind_l0G (lc mc bc : Nat) (N G : Nat → Nat → Int32) (x : Int32) (v : Int32) : Nat → Nat → Nat → Int32
  | 0 => G
  | k + 1 => if (c_X3_isPlace ((x * 1) + (nI (0 + k)))) = 0 then (c_X3_serveBehind_l0G lc mc bc N G x v k) else (mt_gu (mt_gu (c_X3_serveBehind_l0G lc mc bc N G x v k) 6 ((x * 1) + (nI (0 + k))).toNatClampNeg v) 7 ((x * 1) + (nI (0 + k))).toNatClampNeg (nI (0 + k)))
def c_X3_serveBehind_G (lc mc bc : Nat) (N G : Nat → Nat → Int32) (x : Int32) (v : Int32) : Nat → Nat → Int32 := c_X3_serveBehind_l4G lc mc bc N (c_X3_serveBehind_l3G lc mc bc N (c_X3_serveBehind_l2G lc mc bc N (c_X3_serveBehind_l1G lc mc bc N (c_X3_serveBehind_l0G lc mc bc N G x v 1) x v 4) x v 16) x v 64) x v 256
set_option maxRecDepth 100000 in
set_option maxHeartbeats 4000000 in
theorem k_X3_serveBehind (l : Launch) (hlt : l.stackTraces = false) (g : mt_G) (z : Nat) (ad : Nat → Nat) (lc mc bc : Nat) (N G : Nat → Nat → Int32) (o : Nat → Int64) (d : mt_D) (h6 : lc ≤ 6) (h8 : mc ≤ 8) (hb6 : bc ≤ 6) (x : Int32) (v : Int32)  : mt_K l g z yX3_serveBehind cX3_serveBehind 9 none 1 20 0 0 [.ref (ad (0)), .int x, .int v] (mt_wc g ad lc mc bc N G o d) ad (.inr none) (mt_wc g ad lc mc bc N (c_X3_serveBehind_G lc mc bc N G x v) o d) ad := by
  refine mt_ofW (by decide +kernel) (Nat.le_of_ble_eq_true rfl) ?_
  intro p e s m args below meth c S hr9 hk hnm hout hC hW hS ls hl
  have hr := hr9
  have hx := S.1
  have hb := S.2.1
  have hl : lv_has ls 9 [(0, .ref (ad (0))), (1, .int (x)), (2, .int (v))] := hl
  refine lv_iconst (v := 0) hx hb dX3_serveBehind_0 (by decide) ?_
  refine lv_istore_n (lv' := [(3, .int (0)), (0, .ref (ad (0))), (1, .int (x)), (2, .int (v))]) hx hb dX3_serveBehind_1 rfl hl (by decide) rfl (fun ls hl => ?_)
  refine lv_iconst (v := 1) hx hb dX3_serveBehind_2 (by decide) ?_
  refine lv_istore (lv' := [(4, .int (1)), (3, .int (0)), (0, .ref (ad (0))), (1, .int (x)), (2, .int (v))]) hx hb dX3_serveBehind_3 hl (by decide) rfl (fun ls hl => ?_)
  refine lv_iconst (v := 0) hx hb dX3_serveBehind_5 (by decide) ?_
  refine lv_istore (lv' := [(5, .int (0)), (4, .int (1)), (3, .int (0)), (0, .ref (ad (0))), (1, .int (x)), (2, .int (v))]) hx hb dX3_serveBehind_6 hl (by decide) rfl (fun ls hl => ?_)
  refine lv_iload hx hb dX3_serveBehind_8 (lv_at hl 0 rfl) ?_
  refine lv_iconst (v := 4) hx hb dX3_serveBehind_10 (by decide) ?_
  refine lv_icmp_gt (tgt := 87) hx hb dX3_serveBehind_11 (by decide) (fun c_1 => absurd c_1 (by decide)) (fun c_1 => ?_)
  refine lv_iload_n hx hb dX3_serveBehind_14 rfl (lv_at hl 4 rfl) ?_
  refine lv_iload hx hb dX3_serveBehind_15 (lv_at hl 1 rfl) ?_
  refine lv_imul hx hb dX3_serveBehind_17 ?_
  refine lv_istore (lv' := [(6, .int (x * 1)), (5, .int (0)), (4, .int (1)), (3, .int (0)), (0, .ref (ad (0))), (1, .int (x)), (2, .int (v))]) hx hb dX3_serveBehind_18 hl (by decide) rfl (fun ls hl => ?_)
  refine lv_iload_n hx hb dX3_serveBehind_20 rfl (lv_at hl 3 rfl) ?_
  refine lv_istore (lv' := [(7, .int (0)), (6, .int (x * 1)), (5, .int (0)), (4, .int (1)), (3, .int (0)), (0, .ref (ad (0))), (1, .int (x)), (2, .int (v))]) hx hb dX3_serveBehind_21 hl (by decide) rfl (fun ls hl => ?_)
  have hl : lv_has ls 9 [(7, .int (nI (0 + 0))), (0, .ref (ad (0))), (1, .int (x)), (2, .int (v)), (3, .int (0)), (4, .int (1)), (5, .int (0)), (6, .int (x * 1))] := lv_sub hl [0, 5, 6, 7, 4, 3, 2, 1] rfl
  have hW : mt_W g z (mt_wc g ad lc mc bc N (c_X3_serveBehind_l0G lc mc bc N G x v 0) o d) ad _ := hW
  refine lp_up 1 (fun k => mt_wc g ad lc mc bc N (c_X3_serveBehind_l0G lc mc bc N G x v k) o d) (fun k => [(7, .int (nI (0 + k))), (0, .ref (ad (0))), (1, .int (x)), (2, .int (v)), (3, .int (0)), (4, .int (1)), (5, .int (0)), (6, .int (x * 1))]) (fun _ => True) 0 (by omega) trivial hW hS hl (fun H locs ls hP hW hS hl => ?_) (fun k H locs ls hk0 hkn hP hW hS hl ih => ?_)
  · have hW : mt_W g z (mt_wc g ad lc mc bc N (c_X3_serveBehind_l0G lc mc bc N G x v 1) o d) ad _ := hW
    have hl : lv_has ls 9 [(7, .int (nI (0 + 1))), (0, .ref (ad (0))), (1, .int (x)), (2, .int (v)), (3, .int (0)), (4, .int (1)), (5, .int (0)), (6, .int (x * 1))] := hl
    refine lv_iload hx hb dX3_serveBehind_23 (lv_at hl 0 rfl) ?_
    refine lv_iload_n hx hb dX3_serveBehind_25 rfl (lv_at hl 4 rfl) ?_
    refine lv_iload hx hb dX3_serveBehind_26 (lv_at hl 5 rfl) ?_
    refine lv_iadd hx hb dX3_serveBehind_28 ?_
    refine mt_te (y := 1) (by decide) ?_
    refine lv_icmp_ge (tgt := 70) hx hb dX3_serveBehind_29 (by decide) (fun c_2 => ?_) (fun c_2 => absurd (nI_le (a := 1) (b := 0 + 1) (by omega) (by omega)) c_2)
    refine lv_iload_n hx hb dX3_serveBehind_70 rfl (lv_at hl 4 rfl) ?_
    refine lv_iload hx hb dX3_serveBehind_71 (lv_at hl 5 rfl) ?_
    refine lv_iadd hx hb dX3_serveBehind_73 ?_
    refine mt_te (y := 1) (by decide) ?_
    refine lv_istore_n (lv' := [(3, .int (1)), (7, .int (nI (0 + 1))), (0, .ref (ad (0))), (1, .int (x)), (2, .int (v)), (4, .int (1)), (5, .int (0)), (6, .int (x * 1))]) hx hb dX3_serveBehind_74 rfl hl (by decide) rfl (fun ls hl => ?_)
    refine lv_iload hx hb dX3_serveBehind_75 (lv_at hl 5 rfl) ?_
    refine lv_iconst (v := 4) hx hb dX3_serveBehind_77 (by decide) ?_
    refine lv_imul hx hb dX3_serveBehind_78 ?_
    refine mt_te (y := 4) (by decide) ?_
    refine lv_istore (lv' := [(4, .int (4)), (3, .int (1)), (7, .int (nI (0 + 1))), (0, .ref (ad (0))), (1, .int (x)), (2, .int (v)), (5, .int (0)), (6, .int (x * 1))]) hx hb dX3_serveBehind_79 hl (by decide) rfl (fun ls hl => ?_)
    refine lv_iinc (v := 1) (lv' := [(5, .int (1)), (4, .int (4)), (3, .int (1)), (7, .int (nI (0 + 1))), (0, .ref (ad (0))), (1, .int (x)), (2, .int (v)), (6, .int (x * 1))]) hx hb dX3_serveBehind_81 hl (k := 6) rfl rfl (by decide) rfl (fun ls hl => ?_)
    refine lv_goto (tgt := 8) hx hb dX3_serveBehind_84 (by decide) ?_
    refine lv_iload hx hb dX3_serveBehind_8 (lv_at hl 0 rfl) ?_
    refine lv_iconst (v := 4) hx hb dX3_serveBehind_10 (by decide) ?_
    refine lv_icmp_gt (tgt := 87) hx hb dX3_serveBehind_11 (by decide) (fun c_3 => absurd c_3 (by decide)) (fun c_3 => ?_)
    refine lv_iload_n hx hb dX3_serveBehind_14 rfl (lv_at hl 5 rfl) ?_
    refine lv_iload hx hb dX3_serveBehind_15 (lv_at hl 1 rfl) ?_
    refine lv_imul hx hb dX3_serveBehind_17 ?_
    refine lv_istore (lv' := [(6, .int (x * 4)), (5, .int (1)), (4, .int (4)), (3, .int (1)), (7, .int (nI (0 + 1))), (0, .ref (ad (0))), (1, .int (x)), (2, .int (v))]) hx hb dX3_serveBehind_18 hl (by decide) rfl (fun ls hl => ?_)
    refine lv_iload_n hx hb dX3_serveBehind_20 rfl (lv_at hl 3 rfl) ?_
    refine lv_istore (lv' := [(7, .int (1)), (6, .int (x * 4)), (5, .int (1)), (4, .int (4)), (3, .int (1)), (0, .ref (ad (0))), (1, .int (x)), (2, .int (v))]) hx hb dX3_serveBehind_21 hl (by decide) rfl (fun ls hl => ?_)
    have hl : lv_has ls 9 [(7, .int (nI (1 + 0))), (0, .ref (ad (0))), (1, .int (x)), (2, .int (v)), (3, .int (1)), (4, .int (4)), (5, .int (1)), (6, .int (x * 4))] := lv_sub hl [0, 5, 6, 7, 4, 3, 2, 1] rfl
    have hW : mt_W g z (mt_wc g ad lc mc bc N (c_X3_serveBehind_l1G lc mc bc N (c_X3_serveBehind_l0G lc mc bc N G x v 1) x v 0) o d) ad _ := hW
    refine lp_up 4 (fun k => mt_wc g ad lc mc bc N (c_X3_serveBehind_l1G lc mc bc N (c_X3_serveBehind_l0G lc mc bc N G x v 1) x v k) o d) (fun k => [(7, .int (nI (1 + k))), (0, .ref (ad (0))), (1, .int (x)), (2, .int (v)), (3, .int (1)), (4, .int (4)), (5, .int (1)), (6, .int (x * 4))]) (fun _ => True) 0 (by omega) trivial hW hS hl (fun H locs ls hP hW hS hl => ?_) (fun k H locs ls hk0 hkn hP hW hS hl ih => ?_)
    · have hW : mt_W g z (mt_wc g ad lc mc bc N (c_X3_serveBehind_l1G lc mc bc N (c_X3_serveBehind_l0G lc mc bc N G x v 1) x v 4) o d) ad _ := hW
      have hl : lv_has ls 9 [(7, .int (nI (1 + 4))), (0, .ref (ad (0))), (1, .int (x)), (2, .int (v)), (3, .int (1)), (4, .int (4)), (5, .int (1)), (6, .int (x * 4))] := hl
      refine lv_iload hx hb dX3_serveBehind_23 (lv_at hl 0 rfl) ?_
      refine lv_iload_n hx hb dX3_serveBehind_25 rfl (lv_at hl 4 rfl) ?_
      refine lv_iload hx hb dX3_serveBehind_26 (lv_at hl 5 rfl) ?_
      refine lv_iadd hx hb dX3_serveBehind_28 ?_
      refine mt_te (y := 5) (by decide) ?_
      refine lv_icmp_ge (tgt := 70) hx hb dX3_serveBehind_29 (by decide) (fun c_4 => ?_) (fun c_4 => absurd (nI_le (a := 5) (b := 1 + 4) (by omega) (by omega)) c_4)
      refine lv_iload_n hx hb dX3_serveBehind_70 rfl (lv_at hl 4 rfl) ?_
      refine lv_iload hx hb dX3_serveBehind_71 (lv_at hl 5 rfl) ?_
      refine lv_iadd hx hb dX3_serveBehind_73 ?_
      refine mt_te (y := 5) (by decide) ?_
      refine lv_istore_n (lv' := [(3, .int (5)), (7, .int (nI (1 + 4))), (0, .ref (ad (0))), (1, .int (x)), (2, .int (v)), (4, .int (4)), (5, .int (1)), (6, .int (x * 4))]) hx hb dX3_serveBehind_74 rfl hl (by decide) rfl (fun ls hl => ?_)
      refine lv_iload hx hb dX3_serveBehind_75 (lv_at hl 5 rfl) ?_
      refine lv_iconst (v := 4) hx hb dX3_serveBehind_77 (by decide) ?_
      refine lv_imul hx hb dX3_serveBehind_78 ?_
      refine mt_te (y := 16) (by decide) ?_
      refine lv_istore (lv' := [(4, .int (16)), (3, .int (5)), (7, .int (nI (1 + 4))), (0, .ref (ad (0))), (1, .int (x)), (2, .int (v)), (5, .int (1)), (6, .int (x * 4))]) hx hb dX3_serveBehind_79 hl (by decide) rfl (fun ls hl => ?_)
      refine lv_iinc (v := 2) (lv' := [(5, .int (2)), (4, .int (16)), (3, .int (5)), (7, .int (nI (1 + 4))), (0, .ref (ad (0))), (1, .int (x)), (2, .int (v)), (6, .int (x * 4))]) hx hb dX3_serveBehind_81 hl (k := 6) rfl rfl (by decide) rfl (fun ls hl => ?_)
      refine lv_goto (tgt := 8) hx hb dX3_serveBehind_84 (by decide) ?_
      refine lv_iload hx hb dX3_serveBehind_8 (lv_at hl 0 rfl) ?_
      refine lv_iconst (v := 4) hx hb dX3_serveBehind_10 (by decide) ?_
      refine lv_icmp_gt (tgt := 87) hx hb dX3_serveBehind_11 (by decide) (fun c_5 => absurd c_5 (by decide)) (fun c_5 => ?_)
      refine lv_iload_n hx hb dX3_serveBehind_14 rfl (lv_at hl 5 rfl) ?_
      refine lv_iload hx hb dX3_serveBehind_15 (lv_at hl 1 rfl) ?_
      refine lv_imul hx hb dX3_serveBehind_17 ?_
      refine lv_istore (lv' := [(6, .int (x * 16)), (5, .int (2)), (4, .int (16)), (3, .int (5)), (7, .int (nI (1 + 4))), (0, .ref (ad (0))), (1, .int (x)), (2, .int (v))]) hx hb dX3_serveBehind_18 hl (by decide) rfl (fun ls hl => ?_)
      refine lv_iload_n hx hb dX3_serveBehind_20 rfl (lv_at hl 3 rfl) ?_
      refine lv_istore (lv' := [(7, .int (5)), (6, .int (x * 16)), (5, .int (2)), (4, .int (16)), (3, .int (5)), (0, .ref (ad (0))), (1, .int (x)), (2, .int (v))]) hx hb dX3_serveBehind_21 hl (by decide) rfl (fun ls hl => ?_)
      have hl : lv_has ls 9 [(7, .int (nI (5 + 0))), (0, .ref (ad (0))), (1, .int (x)), (2, .int (v)), (3, .int (5)), (4, .int (16)), (5, .int (2)), (6, .int (x * 16))] := lv_sub hl [0, 5, 6, 7, 4, 3, 2, 1] rfl
      have hW : mt_W g z (mt_wc g ad lc mc bc N (c_X3_serveBehind_l2G lc mc bc N (c_X3_serveBehind_l1G lc mc bc N (c_X3_serveBehind_l0G lc mc bc N G x v 1) x v 4) x v 0) o d) ad _ := hW
      refine lp_up 16 (fun k => mt_wc g ad lc mc bc N (c_X3_serveBehind_l2G lc mc bc N (c_X3_serveBehind_l1G lc mc bc N (c_X3_serveBehind_l0G lc mc bc N G x v 1) x v 4) x v k) o d) (fun k => [(7, .int (nI (5 + k))), (0, .ref (ad (0))), (1, .int (x)), (2, .int (v)), (3, .int (5)), (4, .int (16)), (5, .int (2)), (6, .int (x * 16))]) (fun _ => True) 0 (by omega) trivial hW hS hl (fun H locs ls hP hW hS hl => ?_) (fun k H locs ls hk0 hkn hP hW hS hl ih => ?_)
      · have hW : mt_W g z (mt_wc g ad lc mc bc N (c_X3_serveBehind_l2G lc mc bc N (c_X3_serveBehind_l1G lc mc bc N (c_X3_serveBehind_l0G lc mc bc N G x v 1) x v 4) x v 16) o d) ad _ := hW
        have hl : lv_has ls 9 [(7, .int (nI (5 + 16))), (0, .ref (ad (0))), (1, .int (x)), (2, .int (v)), (3, .int (5)), (4, .int (16)), (5, .int (2)), (6, .int (x * 16))] := hl
        refine lv_iload hx hb dX3_serveBehind_23 (lv_at hl 0 rfl) ?_
        refine lv_iload_n hx hb dX3_serveBehind_25 rfl (lv_at hl 4 rfl) ?_
        refine lv_iload hx hb dX3_serveBehind_26 (lv_at hl 5 rfl) ?_
        refine lv_iadd hx hb dX3_serveBehind_28 ?_
        refine mt_te (y := 21) (by decide) ?_
        refine lv_icmp_ge (tgt := 70) hx hb dX3_serveBehind_29 (by decide) (fun c_6 => ?_) (fun c_6 => absurd (nI_le (a := 21) (b := 5 + 16) (by omega) (by omega)) c_6)
        refine lv_iload_n hx hb dX3_serveBehind_70 rfl (lv_at hl 4 rfl) ?_
        refine lv_iload hx hb dX3_serveBehind_71 (lv_at hl 5 rfl) ?_
        refine lv_iadd hx hb dX3_serveBehind_73 ?_
        refine mt_te (y := 21) (by decide) ?_
        refine lv_istore_n (lv' := [(3, .int (21)), (7, .int (nI (5 + 16))), (0, .ref (ad (0))), (1, .int (x)), (2, .int (v)), (4, .int (16)), (5, .int (2)), (6, .int (x * 16))]) hx hb dX3_serveBehind_74 rfl hl (by decide) rfl (fun ls hl => ?_)
        refine lv_iload hx hb dX3_serveBehind_75 (lv_at hl 5 rfl) ?_
        refine lv_iconst (v := 4) hx hb dX3_serveBehind_77 (by decide) ?_
        refine lv_imul hx hb dX3_serveBehind_78 ?_
        refine mt_te (y := 64) (by decide) ?_
        refine lv_istore (lv' := [(4, .int (64)), (3, .int (21)), (7, .int (nI (5 + 16))), (0, .ref (ad (0))), (1, .int (x)), (2, .int (v)), (5, .int (2)), (6, .int (x * 16))]) hx hb dX3_serveBehind_79 hl (by decide) rfl (fun ls hl => ?_)
        refine lv_iinc (v := 3) (lv' := [(5, .int (3)), (4, .int (64)), (3, .int (21)), (7, .int (nI (5 + 16))), (0, .ref (ad (0))), (1, .int (x)), (2, .int (v)), (6, .int (x * 16))]) hx hb dX3_serveBehind_81 hl (k := 6) rfl rfl (by decide) rfl (fun ls hl => ?_)
        refine lv_goto (tgt := 8) hx hb dX3_serveBehind_84 (by decide) ?_
        refine lv_iload hx hb dX3_serveBehind_8 (lv_at hl 0 rfl) ?_
        refine lv_iconst (v := 4) hx hb dX3_serveBehind_10 (by decide) ?_
        refine lv_icmp_gt (tgt := 87) hx hb dX3_serveBehind_11 (by decide) (fun c_7 => absurd c_7 (by decide)) (fun c_7 => ?_)
        refine lv_iload_n hx hb dX3_serveBehind_14 rfl (lv_at hl 5 rfl) ?_
        refine lv_iload hx hb dX3_serveBehind_15 (lv_at hl 1 rfl) ?_
        refine lv_imul hx hb dX3_serveBehind_17 ?_
        refine lv_istore (lv' := [(6, .int (x * 64)), (5, .int (3)), (4, .int (64)), (3, .int (21)), (7, .int (nI (5 + 16))), (0, .ref (ad (0))), (1, .int (x)), (2, .int (v))]) hx hb dX3_serveBehind_18 hl (by decide) rfl (fun ls hl => ?_)
        refine lv_iload_n hx hb dX3_serveBehind_20 rfl (lv_at hl 3 rfl) ?_
        refine lv_istore (lv' := [(7, .int (21)), (6, .int (x * 64)), (5, .int (3)), (4, .int (64)), (3, .int (21)), (0, .ref (ad (0))), (1, .int (x)), (2, .int (v))]) hx hb dX3_serveBehind_21 hl (by decide) rfl (fun ls hl => ?_)
        have hl : lv_has ls 9 [(7, .int (nI (21 + 0))), (0, .ref (ad (0))), (1, .int (x)), (2, .int (v)), (3, .int (21)), (4, .int (64)), (5, .int (3)), (6, .int (x * 64))] := lv_sub hl [0, 5, 6, 7, 4, 3, 2, 1] rfl
        have hW : mt_W g z (mt_wc g ad lc mc bc N (c_X3_serveBehind_l3G lc mc bc N (c_X3_serveBehind_l2G lc mc bc N (c_X3_serveBehind_l1G lc mc bc N (c_X3_serveBehind_l0G lc mc bc N G x v 1) x v 4) x v 16) x v 0) o d) ad _ := hW
        refine lp_up 64 (fun k => mt_wc g ad lc mc bc N (c_X3_serveBehind_l3G lc mc bc N (c_X3_serveBehind_l2G lc mc bc N (c_X3_serveBehind_l1G lc mc bc N (c_X3_serveBehind_l0G lc mc bc N G x v 1) x v 4) x v 16) x v k) o d) (fun k => [(7, .int (nI (21 + k))), (0, .ref (ad (0))), (1, .int (x)), (2, .int (v)), (3, .int (21)), (4, .int (64)), (5, .int (3)), (6, .int (x * 64))]) (fun _ => True) 0 (by omega) trivial hW hS hl (fun H locs ls hP hW hS hl => ?_) (fun k H locs ls hk0 hkn hP hW hS hl ih => ?_)
        · have hW : mt_W g z (mt_wc g ad lc mc bc N (c_X3_serveBehind_l3G lc mc bc N (c_X3_serveBehind_l2G lc mc bc N (c_X3_serveBehind_l1G lc mc bc N (c_X3_serveBehind_l0G lc mc bc N G x v 1) x v 4) x v 16) x v 64) o d) ad _ := hW
          have hl : lv_has ls 9 [(7, .int (nI (21 + 64))), (0, .ref (ad (0))), (1, .int (x)), (2, .int (v)), (3, .int (21)), (4, .int (64)), (5, .int (3)), (6, .int (x * 64))] := hl
          refine lv_iload hx hb dX3_serveBehind_23 (lv_at hl 0 rfl) ?_
          refine lv_iload_n hx hb dX3_serveBehind_25 rfl (lv_at hl 4 rfl) ?_
          refine lv_iload hx hb dX3_serveBehind_26 (lv_at hl 5 rfl) ?_
          refine lv_iadd hx hb dX3_serveBehind_28 ?_
          refine mt_te (y := 85) (by decide) ?_
          refine lv_icmp_ge (tgt := 70) hx hb dX3_serveBehind_29 (by decide) (fun c_8 => ?_) (fun c_8 => absurd (nI_le (a := 85) (b := 21 + 64) (by omega) (by omega)) c_8)
          refine lv_iload_n hx hb dX3_serveBehind_70 rfl (lv_at hl 4 rfl) ?_
          refine lv_iload hx hb dX3_serveBehind_71 (lv_at hl 5 rfl) ?_
          refine lv_iadd hx hb dX3_serveBehind_73 ?_
          refine mt_te (y := 85) (by decide) ?_
          refine lv_istore_n (lv' := [(3, .int (85)), (7, .int (nI (21 + 64))), (0, .ref (ad (0))), (1, .int (x)), (2, .int (v)), (4, .int (64)), (5, .int (3)), (6, .int (x * 64))]) hx hb dX3_serveBehind_74 rfl hl (by decide) rfl (fun ls hl => ?_)
          refine lv_iload hx hb dX3_serveBehind_75 (lv_at hl 5 rfl) ?_
          refine lv_iconst (v := 4) hx hb dX3_serveBehind_77 (by decide) ?_
          refine lv_imul hx hb dX3_serveBehind_78 ?_
          refine mt_te (y := 256) (by decide) ?_
          refine lv_istore (lv' := [(4, .int (256)), (3, .int (85)), (7, .int (nI (21 + 64))), (0, .ref (ad (0))), (1, .int (x)), (2, .int (v)), (5, .int (3)), (6, .int (x * 64))]) hx hb dX3_serveBehind_79 hl (by decide) rfl (fun ls hl => ?_)
          refine lv_iinc (v := 4) (lv' := [(5, .int (4)), (4, .int (256)), (3, .int (85)), (7, .int (nI (21 + 64))), (0, .ref (ad (0))), (1, .int (x)), (2, .int (v)), (6, .int (x * 64))]) hx hb dX3_serveBehind_81 hl (k := 6) rfl rfl (by decide) rfl (fun ls hl => ?_)
          refine lv_goto (tgt := 8) hx hb dX3_serveBehind_84 (by decide) ?_
          refine lv_iload hx hb dX3_serveBehind_8 (lv_at hl 0 rfl) ?_
          refine lv_iconst (v := 4) hx hb dX3_serveBehind_10 (by decide) ?_
          refine lv_icmp_gt (tgt := 87) hx hb dX3_serveBehind_11 (by decide) (fun c_9 => absurd c_9 (by decide)) (fun c_9 => ?_)
          refine lv_iload_n hx hb dX3_serveBehind_14 rfl (lv_at hl 5 rfl) ?_
          refine lv_iload hx hb dX3_serveBehind_15 (lv_at hl 1 rfl) ?_
          refine lv_imul hx hb dX3_serveBehind_17 ?_
          refine lv_istore (lv' := [(6, .int (x * 256)), (5, .int (4)), (4, .int (256)), (3, .int (85)), (7, .int (nI (21 + 64))), (0, .ref (ad (0))), (1, .int (x)), (2, .int (v))]) hx hb dX3_serveBehind_18 hl (by decide) rfl (fun ls hl => ?_)
          refine lv_iload_n hx hb dX3_serveBehind_20 rfl (lv_at hl 3 rfl) ?_
          refine lv_istore (lv' := [(7, .int (85)), (6, .int (x * 256)), (5, .int (4)), (4, .int (256)), (3, .int (85)), (0, .ref (ad (0))), (1, .int (x)), (2, .int (v))]) hx hb dX3_serveBehind_21 hl (by decide) rfl (fun ls hl => ?_)
          have hl : lv_has ls 9 [(7, .int (nI (85 + 0))), (0, .ref (ad (0))), (1, .int (x)), (2, .int (v)), (3, .int (85)), (4, .int (256)), (5, .int (4)), (6, .int (x * 256))] := lv_sub hl [0, 5, 6, 7, 4, 3, 2, 1] rfl
          have hW : mt_W g z (mt_wc g ad lc mc bc N (c_X3_serveBehind_l4G lc mc bc N (c_X3_serveBehind_l3G lc mc bc N (c_X3_serveBehind_l2G lc mc bc N (c_X3_serveBehind_l1G lc mc bc N (c_X3_serveBehind_l0G lc mc bc N G x v 1) x v 4) x v 16) x v 64) x v 0) o d) ad _ := hW
          refine lp_up 256 (fun k => mt_wc g ad lc mc bc N (c_X3_serveBehind_l4G lc mc bc N (c_X3_serveBehind_l3G lc mc bc N (c_X3_serveBehind_l2G lc mc bc N (c_X3_serveBehind_l1G lc mc bc N (c_X3_serveBehind_l0G lc mc bc N G x v 1) x v 4) x v 16) x v 64) x v k) o d) (fun k => [(7, .int (nI (85 + k))), (0, .ref (ad (0))), (1, .int (x)), (2, .int (v)), (3, .int (85)), (4, .int (256)), (5, .int (4)), (6, .int (x * 256))]) (fun _ => True) 0 (by omega) trivial hW hS hl (fun H locs ls hP hW hS hl => ?_) (fun k H locs ls hk0 hkn hP hW hS hl ih => ?_)
          · have hW : mt_W g z (mt_wc g ad lc mc bc N (c_X3_serveBehind_l4G lc mc bc N (c_X3_serveBehind_l3G lc mc bc N (c_X3_serveBehind_l2G lc mc bc N (c_X3_serveBehind_l1G lc mc bc N (c_X3_serveBehind_l0G lc mc bc N G x v 1) x v 4) x v 16) x v 64) x v 256) o d) ad _ := hW
            have hl : lv_has ls 9 [(7, .int (nI (85 + 256))), (0, .ref (ad (0))), (1, .int (x)), (2, .int (v)), (3, .int (85)), (4, .int (256)), (5, .int (4)), (6, .int (x * 256))] := hl
            refine lv_iload hx hb dX3_serveBehind_23 (lv_at hl 0 rfl) ?_
            refine lv_iload_n hx hb dX3_serveBehind_25 rfl (lv_at hl 4 rfl) ?_
            refine lv_iload hx hb dX3_serveBehind_26 (lv_at hl 5 rfl) ?_
            refine lv_iadd hx hb dX3_serveBehind_28 ?_
            refine mt_te (y := 341) (by decide) ?_
            refine lv_icmp_ge (tgt := 70) hx hb dX3_serveBehind_29 (by decide) (fun c_10 => ?_) (fun c_10 => absurd (nI_le (a := 341) (b := 85 + 256) (by omega) (by omega)) c_10)
            refine lv_iload_n hx hb dX3_serveBehind_70 rfl (lv_at hl 4 rfl) ?_
            refine lv_iload hx hb dX3_serveBehind_71 (lv_at hl 5 rfl) ?_
            refine lv_iadd hx hb dX3_serveBehind_73 ?_
            refine mt_te (y := 341) (by decide) ?_
            refine lv_istore_n (lv' := [(3, .int (341)), (7, .int (nI (85 + 256))), (0, .ref (ad (0))), (1, .int (x)), (2, .int (v)), (4, .int (256)), (5, .int (4)), (6, .int (x * 256))]) hx hb dX3_serveBehind_74 rfl hl (by decide) rfl (fun ls hl => ?_)
            refine lv_iload hx hb dX3_serveBehind_75 (lv_at hl 5 rfl) ?_
            refine lv_iconst (v := 4) hx hb dX3_serveBehind_77 (by decide) ?_
            refine lv_imul hx hb dX3_serveBehind_78 ?_
            refine mt_te (y := 1024) (by decide) ?_
            refine lv_istore (lv' := [(4, .int (1024)), (3, .int (341)), (7, .int (nI (85 + 256))), (0, .ref (ad (0))), (1, .int (x)), (2, .int (v)), (5, .int (4)), (6, .int (x * 256))]) hx hb dX3_serveBehind_79 hl (by decide) rfl (fun ls hl => ?_)
            refine lv_iinc (v := 5) (lv' := [(5, .int (5)), (4, .int (1024)), (3, .int (341)), (7, .int (nI (85 + 256))), (0, .ref (ad (0))), (1, .int (x)), (2, .int (v)), (6, .int (x * 256))]) hx hb dX3_serveBehind_81 hl (k := 6) rfl rfl (by decide) rfl (fun ls hl => ?_)
            refine lv_goto (tgt := 8) hx hb dX3_serveBehind_84 (by decide) ?_
            refine lv_iload hx hb dX3_serveBehind_8 (lv_at hl 0 rfl) ?_
            refine lv_iconst (v := 4) hx hb dX3_serveBehind_10 (by decide) ?_
            refine lv_icmp_gt (tgt := 87) hx hb dX3_serveBehind_11 (by decide) (fun c_11 => ?_) (fun c_11 => absurd (by decide) c_11)
            have hW := hW.to (w1 := mt_wc g ad lc mc bc N (c_X3_serveBehind_G lc mc bc N G x v) o d) (by rw [c_X3_serveBehind_G])
            exact mt_rv S hr hk hW hS rfl (Nat.le_of_ble_eq_true rfl) (Nat.le_of_ble_eq_true rfl) dX3_serveBehind_87
          · have hW : mt_W g z (mt_wc g ad lc mc bc N (c_X3_serveBehind_l4G lc mc bc N (c_X3_serveBehind_l3G lc mc bc N (c_X3_serveBehind_l2G lc mc bc N (c_X3_serveBehind_l1G lc mc bc N (c_X3_serveBehind_l0G lc mc bc N G x v 1) x v 4) x v 16) x v 64) x v k) o d) ad _ := hW
            have hl : lv_has ls 9 [(7, .int (nI (85 + k))), (0, .ref (ad (0))), (1, .int (x)), (2, .int (v)), (3, .int (85)), (4, .int (256)), (5, .int (4)), (6, .int (x * 256))] := hl
            refine lv_iload hx hb dX3_serveBehind_23 (lv_at hl 0 rfl) ?_
            refine lv_iload_n hx hb dX3_serveBehind_25 rfl (lv_at hl 4 rfl) ?_
            refine lv_iload hx hb dX3_serveBehind_26 (lv_at hl 5 rfl) ?_
            refine lv_iadd hx hb dX3_serveBehind_28 ?_
            refine mt_te (y := 341) (by decide) ?_
            refine lv_icmp_ge (tgt := 70) hx hb dX3_serveBehind_29 (by decide) (fun c_12 => absurd c_12 (nI_ge (a := 85 + k) (b := 341) (by omega) (by omega))) (fun c_12 => ?_)
            refine lv_iload hx hb dX3_serveBehind_32 (lv_at hl 7 rfl) ?_
            refine lv_iload hx hb dX3_serveBehind_34 (lv_at hl 0 rfl) ?_
            refine lv_iadd hx hb dX3_serveBehind_36 ?_
            refine lv_istore (lv' := [(8, .int ((x * 256) + (nI (85 + k)))), (7, .int (nI (85 + k))), (0, .ref (ad (0))), (1, .int (x)), (2, .int (v)), (3, .int (85)), (4, .int (256)), (5, .int (4)), (6, .int (x * 256))]) hx hb dX3_serveBehind_37 hl (by decide) rfl (fun ls hl => ?_)
            refine lv_iload hx hb dX3_serveBehind_39 (lv_at hl 0 rfl) ?_
            refine mt_cS1 (As := [.int ((x * 256) + (nI (85 + k)))]) (rest := []) S ps_X3_isPlace mw_ml_X3_272 (k_X3_isPlace l hlt g z ad lc mc bc N (c_X3_serveBehind_l4G lc mc bc N (c_X3_serveBehind_l3G lc mc bc N (c_X3_serveBehind_l2G lc mc bc N (c_X3_serveBehind_l1G lc mc bc N (c_X3_serveBehind_l0G lc mc bc N G x v 1) x v 4) x v 16) x v 64) x v k) o d h6 h8 hb6 ((x * 256) + (nI (85 + k)))) hC hW hS rfl hl.1 rfl (Nat.le_of_ble_eq_true rfl) dX3_serveBehind_41 ⟨(Nat.le_of_ble_eq_true rfl), (Nat.le_of_ble_eq_true rfl)⟩ ⟨(Nat.le_of_ble_eq_true rfl), (Nat.le_of_ble_eq_true rfl)⟩ rfl (fun H locs hW hS => ?_)
            refine lv_if_eq (tgt := 64) hx hb dX3_serveBehind_44 (by decide) (fun c_13 => ?_) (fun c_13 => ?_)
            · refine lv_iinc (v := nI ((85 + k) + 1)) (lv' := [(7, .int (nI ((85 + k) + 1))), (8, .int ((x * 256) + (nI (85 + k)))), (0, .ref (ad (0))), (1, .int (x)), (2, .int (v)), (3, .int (85)), (4, .int (256)), (5, .int (4)), (6, .int (x * 256))]) hx hb dX3_serveBehind_64 hl (k := 1) rfl (nI_1 _) (by decide) rfl (fun ls hl => ?_)
              refine lv_goto (tgt := 23) hx hb dX3_serveBehind_67 (by decide) ?_
              have hW : mt_W g z (mt_wc g ad lc mc bc N (c_X3_serveBehind_l4G lc mc bc N (c_X3_serveBehind_l3G lc mc bc N (c_X3_serveBehind_l2G lc mc bc N (c_X3_serveBehind_l1G lc mc bc N (c_X3_serveBehind_l0G lc mc bc N G x v 1) x v 4) x v 16) x v 64) x v (k + 1)) o d) ad _ := hW.to (by rw [show c_X3_serveBehind_l4G lc mc bc N (c_X3_serveBehind_l3G lc mc bc N (c_X3_serveBehind_l2G lc mc bc N (c_X3_serveBehind_l1G lc mc bc N (c_X3_serveBehind_l0G lc mc bc N G x v 1) x v 4) x v 16) x v 64) x v (k + 1) = c_X3_serveBehind_l4G lc mc bc N (c_X3_serveBehind_l3G lc mc bc N (c_X3_serveBehind_l2G lc mc bc N (c_X3_serveBehind_l1G lc mc bc N (c_X3_serveBehind_l0G lc mc bc N G x v 1) x v 4) x v 16) x v 64) x v k from (by rw [c_X3_serveBehind_l4G, if_pos c_13])])
              have hl : lv_has ls 9 [(7, .int (nI (85 + (k + 1)))), (0, .ref (ad (0))), (1, .int (x)), (2, .int (v)), (3, .int (85)), (4, .int (256)), (5, .int (4)), (6, .int (x * 256))] := lv_sub hl [0, 2, 3, 4, 5, 6, 7, 8] rfl
              exact ih _ _ _ trivial hW hS hl
            · refine lv_aload_n hx hb dX3_serveBehind_47 rfl (lv_at hl 2 rfl) ?_
              refine mt_get S iw_X3 hC hW wc_0 rfl 5 (by decide) mw_fl_X3_34 rfl rfl dX3_serveBehind_48 ?_
              refine lv_iload hx hb dX3_serveBehind_51 (lv_at hl 0 rfl) ?_
              refine lv_iload_n hx hb dX3_serveBehind_53 rfl (lv_at hl 4 rfl) ?_
              refine wk_iast S hC hW hS ar_6 (c_isPlace_in c_13) dX3_serveBehind_54 (fun H locs hW hS => ?_)
              refine lv_aload_n hx hb dX3_serveBehind_55 rfl (lv_at hl 2 rfl) ?_
              refine mt_get S iw_X3 hC hW wc_0 rfl 6 (by decide) mw_fl_X3_37 rfl rfl dX3_serveBehind_56 ?_
              refine lv_iload hx hb dX3_serveBehind_59 (lv_at hl 0 rfl) ?_
              refine lv_iload hx hb dX3_serveBehind_61 (lv_at hl 1 rfl) ?_
              refine wk_iast S hC hW hS ar_7 (c_isPlace_in c_13) dX3_serveBehind_63 (fun H locs hW hS => ?_)
              refine lv_iinc (v := nI ((85 + k) + 1)) (lv' := [(7, .int (nI ((85 + k) + 1))), (8, .int ((x * 256) + (nI (85 + k)))), (0, .ref (ad (0))), (1, .int (x)), (2, .int (v)), (3, .int (85)), (4, .int (256)), (5, .int (4)), (6, .int (x * 256))]) hx hb dX3_serveBehind_64 hl (k := 1) rfl (nI_1 _) (by decide) rfl (fun ls hl => ?_)
              refine lv_goto (tgt := 23) hx hb dX3_serveBehind_67 (by decide) ?_
              have hW : mt_W g z (mt_wc g ad lc mc bc N (c_X3_serveBehind_l4G lc mc bc N (c_X3_serveBehind_l3G lc mc bc N (c_X3_serveBehind_l2G lc mc bc N (c_X3_serveBehind_l1G lc mc bc N (c_X3_serveBehind_l0G lc mc bc N G x v 1) x v 4) x v 16) x v 64) x v (k + 1)) o d) ad _ := hW.to (by rw [show c_X3_serveBehind_l4G lc mc bc N (c_X3_serveBehind_l3G lc mc bc N (c_X3_serveBehind_l2G lc mc bc N (c_X3_serveBehind_l1G lc mc bc N (c_X3_serveBehind_l0G lc mc bc N G x v 1) x v 4) x v 16) x v 64) x v (k + 1) = mt_gu (mt_gu (c_X3_serveBehind_l4G lc mc bc N (c_X3_serveBehind_l3G lc mc bc N (c_X3_serveBehind_l2G lc mc bc N (c_X3_serveBehind_l1G lc mc bc N (c_X3_serveBehind_l0G lc mc bc N G x v 1) x v 4) x v 16) x v 64) x v k) 6 ((x * 256) + (nI (85 + k))).toNatClampNeg v) 7 ((x * 256) + (nI (85 + k))).toNatClampNeg (nI (85 + k)) from (by rw [c_X3_serveBehind_l4G, if_neg c_13])])
              have hl : lv_has ls 9 [(7, .int (nI (85 + (k + 1)))), (0, .ref (ad (0))), (1, .int (x)), (2, .int (v)), (3, .int (85)), (4, .int (256)), (5, .int (4)), (6, .int (x * 256))] := lv_sub hl [0, 2, 3, 4, 5, 6, 7, 8] rfl
              exact ih _ _ _ trivial hW hS hl
        · have hW : mt_W g z (mt_wc g ad lc mc bc N (c_X3_serveBehind_l3G lc mc bc N (c_X3_serveBehind_l2G lc mc bc N (c_X3_serveBehind_l1G lc mc bc N (c_X3_serveBehind_l0G lc mc bc N G x v 1) x v 4) x v 16) x v k) o d) ad _ := hW
          have hl : lv_has ls 9 [(7, .int (nI (21 + k))), (0, .ref (ad (0))), (1, .int (x)), (2, .int (v)), (3, .int (21)), (4, .int (64)), (5, .int (3)), (6, .int (x * 64))] := hl
          refine lv_iload hx hb dX3_serveBehind_23 (lv_at hl 0 rfl) ?_
          refine lv_iload_n hx hb dX3_serveBehind_25 rfl (lv_at hl 4 rfl) ?_
          refine lv_iload hx hb dX3_serveBehind_26 (lv_at hl 5 rfl) ?_
          refine lv_iadd hx hb dX3_serveBehind_28 ?_
          refine mt_te (y := 85) (by decide) ?_
          refine lv_icmp_ge (tgt := 70) hx hb dX3_serveBehind_29 (by decide) (fun c_14 => absurd c_14 (nI_ge (a := 21 + k) (b := 85) (by omega) (by omega))) (fun c_14 => ?_)
          refine lv_iload hx hb dX3_serveBehind_32 (lv_at hl 7 rfl) ?_
          refine lv_iload hx hb dX3_serveBehind_34 (lv_at hl 0 rfl) ?_
          refine lv_iadd hx hb dX3_serveBehind_36 ?_
          refine lv_istore (lv' := [(8, .int ((x * 64) + (nI (21 + k)))), (7, .int (nI (21 + k))), (0, .ref (ad (0))), (1, .int (x)), (2, .int (v)), (3, .int (21)), (4, .int (64)), (5, .int (3)), (6, .int (x * 64))]) hx hb dX3_serveBehind_37 hl (by decide) rfl (fun ls hl => ?_)
          refine lv_iload hx hb dX3_serveBehind_39 (lv_at hl 0 rfl) ?_
          refine mt_cS1 (As := [.int ((x * 64) + (nI (21 + k)))]) (rest := []) S ps_X3_isPlace mw_ml_X3_272 (k_X3_isPlace l hlt g z ad lc mc bc N (c_X3_serveBehind_l3G lc mc bc N (c_X3_serveBehind_l2G lc mc bc N (c_X3_serveBehind_l1G lc mc bc N (c_X3_serveBehind_l0G lc mc bc N G x v 1) x v 4) x v 16) x v k) o d h6 h8 hb6 ((x * 64) + (nI (21 + k)))) hC hW hS rfl hl.1 rfl (Nat.le_of_ble_eq_true rfl) dX3_serveBehind_41 ⟨(Nat.le_of_ble_eq_true rfl), (Nat.le_of_ble_eq_true rfl)⟩ ⟨(Nat.le_of_ble_eq_true rfl), (Nat.le_of_ble_eq_true rfl)⟩ rfl (fun H locs hW hS => ?_)
          refine lv_if_eq (tgt := 64) hx hb dX3_serveBehind_44 (by decide) (fun c_15 => ?_) (fun c_15 => ?_)
          · refine lv_iinc (v := nI ((21 + k) + 1)) (lv' := [(7, .int (nI ((21 + k) + 1))), (8, .int ((x * 64) + (nI (21 + k)))), (0, .ref (ad (0))), (1, .int (x)), (2, .int (v)), (3, .int (21)), (4, .int (64)), (5, .int (3)), (6, .int (x * 64))]) hx hb dX3_serveBehind_64 hl (k := 1) rfl (nI_1 _) (by decide) rfl (fun ls hl => ?_)
            refine lv_goto (tgt := 23) hx hb dX3_serveBehind_67 (by decide) ?_
            have hW : mt_W g z (mt_wc g ad lc mc bc N (c_X3_serveBehind_l3G lc mc bc N (c_X3_serveBehind_l2G lc mc bc N (c_X3_serveBehind_l1G lc mc bc N (c_X3_serveBehind_l0G lc mc bc N G x v 1) x v 4) x v 16) x v (k + 1)) o d) ad _ := hW.to (by rw [show c_X3_serveBehind_l3G lc mc bc N (c_X3_serveBehind_l2G lc mc bc N (c_X3_serveBehind_l1G lc mc bc N (c_X3_serveBehind_l0G lc mc bc N G x v 1) x v 4) x v 16) x v (k + 1) = c_X3_serveBehind_l3G lc mc bc N (c_X3_serveBehind_l2G lc mc bc N (c_X3_serveBehind_l1G lc mc bc N (c_X3_serveBehind_l0G lc mc bc N G x v 1) x v 4) x v 16) x v k from (by rw [c_X3_serveBehind_l3G, if_pos c_15])])
            have hl : lv_has ls 9 [(7, .int (nI (21 + (k + 1)))), (0, .ref (ad (0))), (1, .int (x)), (2, .int (v)), (3, .int (21)), (4, .int (64)), (5, .int (3)), (6, .int (x * 64))] := lv_sub hl [0, 2, 3, 4, 5, 6, 7, 8] rfl
            exact ih _ _ _ trivial hW hS hl
          · refine lv_aload_n hx hb dX3_serveBehind_47 rfl (lv_at hl 2 rfl) ?_
            refine mt_get S iw_X3 hC hW wc_0 rfl 5 (by decide) mw_fl_X3_34 rfl rfl dX3_serveBehind_48 ?_
            refine lv_iload hx hb dX3_serveBehind_51 (lv_at hl 0 rfl) ?_
            refine lv_iload_n hx hb dX3_serveBehind_53 rfl (lv_at hl 4 rfl) ?_
            refine wk_iast S hC hW hS ar_6 (c_isPlace_in c_15) dX3_serveBehind_54 (fun H locs hW hS => ?_)
            refine lv_aload_n hx hb dX3_serveBehind_55 rfl (lv_at hl 2 rfl) ?_
            refine mt_get S iw_X3 hC hW wc_0 rfl 6 (by decide) mw_fl_X3_37 rfl rfl dX3_serveBehind_56 ?_
            refine lv_iload hx hb dX3_serveBehind_59 (lv_at hl 0 rfl) ?_
            refine lv_iload hx hb dX3_serveBehind_61 (lv_at hl 1 rfl) ?_
            refine wk_iast S hC hW hS ar_7 (c_isPlace_in c_15) dX3_serveBehind_63 (fun H locs hW hS => ?_)
            refine lv_iinc (v := nI ((21 + k) + 1)) (lv' := [(7, .int (nI ((21 + k) + 1))), (8, .int ((x * 64) + (nI (21 + k)))), (0, .ref (ad (0))), (1, .int (x)), (2, .int (v)), (3, .int (21)), (4, .int (64)), (5, .int (3)), (6, .int (x * 64))]) hx hb dX3_serveBehind_64 hl (k := 1) rfl (nI_1 _) (by decide) rfl (fun ls hl => ?_)
            refine lv_goto (tgt := 23) hx hb dX3_serveBehind_67 (by decide) ?_
            have hW : mt_W g z (mt_wc g ad lc mc bc N (c_X3_serveBehind_l3G lc mc bc N (c_X3_serveBehind_l2G lc mc bc N (c_X3_serveBehind_l1G lc mc bc N (c_X3_serveBehind_l0G lc mc bc N G x v 1) x v 4) x v 16) x v (k + 1)) o d) ad _ := hW.to (by rw [show c_X3_serveBehind_l3G lc mc bc N (c_X3_serveBehind_l2G lc mc bc N (c_X3_serveBehind_l1G lc mc bc N (c_X3_serveBehind_l0G lc mc bc N G x v 1) x v 4) x v 16) x v (k + 1) = mt_gu (mt_gu (c_X3_serveBehind_l3G lc mc bc N (c_X3_serveBehind_l2G lc mc bc N (c_X3_serveBehind_l1G lc mc bc N (c_X3_serveBehind_l0G lc mc bc N G x v 1) x v 4) x v 16) x v k) 6 ((x * 64) + (nI (21 + k))).toNatClampNeg v) 7 ((x * 64) + (nI (21 + k))).toNatClampNeg (nI (21 + k)) from (by rw [c_X3_serveBehind_l3G, if_neg c_15])])
            have hl : lv_has ls 9 [(7, .int (nI (21 + (k + 1)))), (0, .ref (ad (0))), (1, .int (x)), (2, .int (v)), (3, .int (21)), (4, .int (64)), (5, .int (3)), (6, .int (x * 64))] := lv_sub hl [0, 2, 3, 4, 5, 6, 7, 8] rfl
            exact ih _ _ _ trivial hW hS hl
      · have hW : mt_W g z (mt_wc g ad lc mc bc N (c_X3_serveBehind_l2G lc mc bc N (c_X3_serveBehind_l1G lc mc bc N (c_X3_serveBehind_l0G lc mc bc N G x v 1) x v 4) x v k) o d) ad _ := hW
        have hl : lv_has ls 9 [(7, .int (nI (5 + k))), (0, .ref (ad (0))), (1, .int (x)), (2, .int (v)), (3, .int (5)), (4, .int (16)), (5, .int (2)), (6, .int (x * 16))] := hl
        refine lv_iload hx hb dX3_serveBehind_23 (lv_at hl 0 rfl) ?_
        refine lv_iload_n hx hb dX3_serveBehind_25 rfl (lv_at hl 4 rfl) ?_
        refine lv_iload hx hb dX3_serveBehind_26 (lv_at hl 5 rfl) ?_
        refine lv_iadd hx hb dX3_serveBehind_28 ?_
        refine mt_te (y := 21) (by decide) ?_
        refine lv_icmp_ge (tgt := 70) hx hb dX3_serveBehind_29 (by decide) (fun c_16 => absurd c_16 (nI_ge (a := 5 + k) (b := 21) (by omega) (by omega))) (fun c_16 => ?_)
        refine lv_iload hx hb dX3_serveBehind_32 (lv_at hl 7 rfl) ?_
        refine lv_iload hx hb dX3_serveBehind_34 (lv_at hl 0 rfl) ?_
        refine lv_iadd hx hb dX3_serveBehind_36 ?_
        refine lv_istore (lv' := [(8, .int ((x * 16) + (nI (5 + k)))), (7, .int (nI (5 + k))), (0, .ref (ad (0))), (1, .int (x)), (2, .int (v)), (3, .int (5)), (4, .int (16)), (5, .int (2)), (6, .int (x * 16))]) hx hb dX3_serveBehind_37 hl (by decide) rfl (fun ls hl => ?_)
        refine lv_iload hx hb dX3_serveBehind_39 (lv_at hl 0 rfl) ?_
        refine mt_cS1 (As := [.int ((x * 16) + (nI (5 + k)))]) (rest := []) S ps_X3_isPlace mw_ml_X3_272 (k_X3_isPlace l hlt g z ad lc mc bc N (c_X3_serveBehind_l2G lc mc bc N (c_X3_serveBehind_l1G lc mc bc N (c_X3_serveBehind_l0G lc mc bc N G x v 1) x v 4) x v k) o d h6 h8 hb6 ((x * 16) + (nI (5 + k)))) hC hW hS rfl hl.1 rfl (Nat.le_of_ble_eq_true rfl) dX3_serveBehind_41 ⟨(Nat.le_of_ble_eq_true rfl), (Nat.le_of_ble_eq_true rfl)⟩ ⟨(Nat.le_of_ble_eq_true rfl), (Nat.le_of_ble_eq_true rfl)⟩ rfl (fun H locs hW hS => ?_)
        refine lv_if_eq (tgt := 64) hx hb dX3_serveBehind_44 (by decide) (fun c_17 => ?_) (fun c_17 => ?_)
        · refine lv_iinc (v := nI ((5 + k) + 1)) (lv' := [(7, .int (nI ((5 + k) + 1))), (8, .int ((x * 16) + (nI (5 + k)))), (0, .ref (ad (0))), (1, .int (x)), (2, .int (v)), (3, .int (5)), (4, .int (16)), (5, .int (2)), (6, .int (x * 16))]) hx hb dX3_serveBehind_64 hl (k := 1) rfl (nI_1 _) (by decide) rfl (fun ls hl => ?_)
          refine lv_goto (tgt := 23) hx hb dX3_serveBehind_67 (by decide) ?_
          have hW : mt_W g z (mt_wc g ad lc mc bc N (c_X3_serveBehind_l2G lc mc bc N (c_X3_serveBehind_l1G lc mc bc N (c_X3_serveBehind_l0G lc mc bc N G x v 1) x v 4) x v (k + 1)) o d) ad _ := hW.to (by rw [show c_X3_serveBehind_l2G lc mc bc N (c_X3_serveBehind_l1G lc mc bc N (c_X3_serveBehind_l0G lc mc bc N G x v 1) x v 4) x v (k + 1) = c_X3_serveBehind_l2G lc mc bc N (c_X3_serveBehind_l1G lc mc bc N (c_X3_serveBehind_l0G lc mc bc N G x v 1) x v 4) x v k from (by rw [c_X3_serveBehind_l2G, if_pos c_17])])
          have hl : lv_has ls 9 [(7, .int (nI (5 + (k + 1)))), (0, .ref (ad (0))), (1, .int (x)), (2, .int (v)), (3, .int (5)), (4, .int (16)), (5, .int (2)), (6, .int (x * 16))] := lv_sub hl [0, 2, 3, 4, 5, 6, 7, 8] rfl
          exact ih _ _ _ trivial hW hS hl
        · refine lv_aload_n hx hb dX3_serveBehind_47 rfl (lv_at hl 2 rfl) ?_
          refine mt_get S iw_X3 hC hW wc_0 rfl 5 (by decide) mw_fl_X3_34 rfl rfl dX3_serveBehind_48 ?_
          refine lv_iload hx hb dX3_serveBehind_51 (lv_at hl 0 rfl) ?_
          refine lv_iload_n hx hb dX3_serveBehind_53 rfl (lv_at hl 4 rfl) ?_
          refine wk_iast S hC hW hS ar_6 (c_isPlace_in c_17) dX3_serveBehind_54 (fun H locs hW hS => ?_)
          refine lv_aload_n hx hb dX3_serveBehind_55 rfl (lv_at hl 2 rfl) ?_
          refine mt_get S iw_X3 hC hW wc_0 rfl 6 (by decide) mw_fl_X3_37 rfl rfl dX3_serveBehind_56 ?_
          refine lv_iload hx hb dX3_serveBehind_59 (lv_at hl 0 rfl) ?_
          refine lv_iload hx hb dX3_serveBehind_61 (lv_at hl 1 rfl) ?_
          refine wk_iast S hC hW hS ar_7 (c_isPlace_in c_17) dX3_serveBehind_63 (fun H locs hW hS => ?_)
          refine lv_iinc (v := nI ((5 + k) + 1)) (lv' := [(7, .int (nI ((5 + k) + 1))), (8, .int ((x * 16) + (nI (5 + k)))), (0, .ref (ad (0))), (1, .int (x)), (2, .int (v)), (3, .int (5)), (4, .int (16)), (5, .int (2)), (6, .int (x * 16))]) hx hb dX3_serveBehind_64 hl (k := 1) rfl (nI_1 _) (by decide) rfl (fun ls hl => ?_)
          refine lv_goto (tgt := 23) hx hb dX3_serveBehind_67 (by decide) ?_
          have hW : mt_W g z (mt_wc g ad lc mc bc N (c_X3_serveBehind_l2G lc mc bc N (c_X3_serveBehind_l1G lc mc bc N (c_X3_serveBehind_l0G lc mc bc N G x v 1) x v 4) x v (k + 1)) o d) ad _ := hW.to (by rw [show c_X3_serveBehind_l2G lc mc bc N (c_X3_serveBehind_l1G lc mc bc N (c_X3_serveBehind_l0G lc mc bc N G x v 1) x v 4) x v (k + 1) = mt_gu (mt_gu (c_X3_serveBehind_l2G lc mc bc N (c_X3_serveBehind_l1G lc mc bc N (c_X3_serveBehind_l0G lc mc bc N G x v 1) x v 4) x v k) 6 ((x * 16) + (nI (5 + k))).toNatClampNeg v) 7 ((x * 16) + (nI (5 + k))).toNatClampNeg (nI (5 + k)) from (by rw [c_X3_serveBehind_l2G, if_neg c_17])])
          have hl : lv_has ls 9 [(7, .int (nI (5 + (k + 1)))), (0, .ref (ad (0))), (1, .int (x)), (2, .int (v)), (3, .int (5)), (4, .int (16)), (5, .int (2)), (6, .int (x * 16))] := lv_sub hl [0, 2, 3, 4, 5, 6, 7, 8] rfl
          exact ih _ _ _ trivial hW hS hl
    · have hW : mt_W g z (mt_wc g ad lc mc bc N (c_X3_serveBehind_l1G lc mc bc N (c_X3_serveBehind_l0G lc mc bc N G x v 1) x v k) o d) ad _ := hW
      have hl : lv_has ls 9 [(7, .int (nI (1 + k))), (0, .ref (ad (0))), (1, .int (x)), (2, .int (v)), (3, .int (1)), (4, .int (4)), (5, .int (1)), (6, .int (x * 4))] := hl
      refine lv_iload hx hb dX3_serveBehind_23 (lv_at hl 0 rfl) ?_
      refine lv_iload_n hx hb dX3_serveBehind_25 rfl (lv_at hl 4 rfl) ?_
      refine lv_iload hx hb dX3_serveBehind_26 (lv_at hl 5 rfl) ?_
      refine lv_iadd hx hb dX3_serveBehind_28 ?_
      refine mt_te (y := 5) (by decide) ?_
      refine lv_icmp_ge (tgt := 70) hx hb dX3_serveBehind_29 (by decide) (fun c_18 => absurd c_18 (nI_ge (a := 1 + k) (b := 5) (by omega) (by omega))) (fun c_18 => ?_)
      refine lv_iload hx hb dX3_serveBehind_32 (lv_at hl 7 rfl) ?_
      refine lv_iload hx hb dX3_serveBehind_34 (lv_at hl 0 rfl) ?_
      refine lv_iadd hx hb dX3_serveBehind_36 ?_
      refine lv_istore (lv' := [(8, .int ((x * 4) + (nI (1 + k)))), (7, .int (nI (1 + k))), (0, .ref (ad (0))), (1, .int (x)), (2, .int (v)), (3, .int (1)), (4, .int (4)), (5, .int (1)), (6, .int (x * 4))]) hx hb dX3_serveBehind_37 hl (by decide) rfl (fun ls hl => ?_)
      refine lv_iload hx hb dX3_serveBehind_39 (lv_at hl 0 rfl) ?_
      refine mt_cS1 (As := [.int ((x * 4) + (nI (1 + k)))]) (rest := []) S ps_X3_isPlace mw_ml_X3_272 (k_X3_isPlace l hlt g z ad lc mc bc N (c_X3_serveBehind_l1G lc mc bc N (c_X3_serveBehind_l0G lc mc bc N G x v 1) x v k) o d h6 h8 hb6 ((x * 4) + (nI (1 + k)))) hC hW hS rfl hl.1 rfl (Nat.le_of_ble_eq_true rfl) dX3_serveBehind_41 ⟨(Nat.le_of_ble_eq_true rfl), (Nat.le_of_ble_eq_true rfl)⟩ ⟨(Nat.le_of_ble_eq_true rfl), (Nat.le_of_ble_eq_true rfl)⟩ rfl (fun H locs hW hS => ?_)
      refine lv_if_eq (tgt := 64) hx hb dX3_serveBehind_44 (by decide) (fun c_19 => ?_) (fun c_19 => ?_)
      · refine lv_iinc (v := nI ((1 + k) + 1)) (lv' := [(7, .int (nI ((1 + k) + 1))), (8, .int ((x * 4) + (nI (1 + k)))), (0, .ref (ad (0))), (1, .int (x)), (2, .int (v)), (3, .int (1)), (4, .int (4)), (5, .int (1)), (6, .int (x * 4))]) hx hb dX3_serveBehind_64 hl (k := 1) rfl (nI_1 _) (by decide) rfl (fun ls hl => ?_)
        refine lv_goto (tgt := 23) hx hb dX3_serveBehind_67 (by decide) ?_
        have hW : mt_W g z (mt_wc g ad lc mc bc N (c_X3_serveBehind_l1G lc mc bc N (c_X3_serveBehind_l0G lc mc bc N G x v 1) x v (k + 1)) o d) ad _ := hW.to (by rw [show c_X3_serveBehind_l1G lc mc bc N (c_X3_serveBehind_l0G lc mc bc N G x v 1) x v (k + 1) = c_X3_serveBehind_l1G lc mc bc N (c_X3_serveBehind_l0G lc mc bc N G x v 1) x v k from (by rw [c_X3_serveBehind_l1G, if_pos c_19])])
        have hl : lv_has ls 9 [(7, .int (nI (1 + (k + 1)))), (0, .ref (ad (0))), (1, .int (x)), (2, .int (v)), (3, .int (1)), (4, .int (4)), (5, .int (1)), (6, .int (x * 4))] := lv_sub hl [0, 2, 3, 4, 5, 6, 7, 8] rfl
        exact ih _ _ _ trivial hW hS hl
      · refine lv_aload_n hx hb dX3_serveBehind_47 rfl (lv_at hl 2 rfl) ?_
        refine mt_get S iw_X3 hC hW wc_0 rfl 5 (by decide) mw_fl_X3_34 rfl rfl dX3_serveBehind_48 ?_
        refine lv_iload hx hb dX3_serveBehind_51 (lv_at hl 0 rfl) ?_
        refine lv_iload_n hx hb dX3_serveBehind_53 rfl (lv_at hl 4 rfl) ?_
        refine wk_iast S hC hW hS ar_6 (c_isPlace_in c_19) dX3_serveBehind_54 (fun H locs hW hS => ?_)
        refine lv_aload_n hx hb dX3_serveBehind_55 rfl (lv_at hl 2 rfl) ?_
        refine mt_get S iw_X3 hC hW wc_0 rfl 6 (by decide) mw_fl_X3_37 rfl rfl dX3_serveBehind_56 ?_
        refine lv_iload hx hb dX3_serveBehind_59 (lv_at hl 0 rfl) ?_
        refine lv_iload hx hb dX3_serveBehind_61 (lv_at hl 1 rfl) ?_
        refine wk_iast S hC hW hS ar_7 (c_isPlace_in c_19) dX3_serveBehind_63 (fun H locs hW hS => ?_)
        refine lv_iinc (v := nI ((1 + k) + 1)) (lv' := [(7, .int (nI ((1 + k) + 1))), (8, .int ((x * 4) + (nI (1 + k)))), (0, .ref (ad (0))), (1, .int (x)), (2, .int (v)), (3, .int (1)), (4, .int (4)), (5, .int (1)), (6, .int (x * 4))]) hx hb dX3_serveBehind_64 hl (k := 1) rfl (nI_1 _) (by decide) rfl (fun ls hl => ?_)
        refine lv_goto (tgt := 23) hx hb dX3_serveBehind_67 (by decide) ?_
        have hW : mt_W g z (mt_wc g ad lc mc bc N (c_X3_serveBehind_l1G lc mc bc N (c_X3_serveBehind_l0G lc mc bc N G x v 1) x v (k + 1)) o d) ad _ := hW.to (by rw [show c_X3_serveBehind_l1G lc mc bc N (c_X3_serveBehind_l0G lc mc bc N G x v 1) x v (k + 1) = mt_gu (mt_gu (c_X3_serveBehind_l1G lc mc bc N (c_X3_serveBehind_l0G lc mc bc N G x v 1) x v k) 6 ((x * 4) + (nI (1 + k))).toNatClampNeg v) 7 ((x * 4) + (nI (1 + k))).toNatClampNeg (nI (1 + k)) from (by rw [c_X3_serveBehind_l1G, if_neg c_19])])
        have hl : lv_has ls 9 [(7, .int (nI (1 + (k + 1)))), (0, .ref (ad (0))), (1, .int (x)), (2, .int (v)), (3, .int (1)), (4, .int (4)), (5, .int (1)), (6, .int (x * 4))] := lv_sub hl [0, 2, 3, 4, 5, 6, 7, 8] rfl
        exact ih _ _ _ trivial hW hS hl
  · have hW : mt_W g z (mt_wc g ad lc mc bc N (c_X3_serveBehind_l0G lc mc bc N G x v k) o d) ad _ := hW
    have hl : lv_has ls 9 [(7, .int (nI (0 + k))), (0, .ref (ad (0))), (1, .int (x)), (2, .int (v)), (3, .int (0)), (4, .int (1)), (5, .int (0)), (6, .int (x * 1))] := hl
    refine lv_iload hx hb dX3_serveBehind_23 (lv_at hl 0 rfl) ?_
    refine lv_iload_n hx hb dX3_serveBehind_25 rfl (lv_at hl 4 rfl) ?_
    refine lv_iload hx hb dX3_serveBehind_26 (lv_at hl 5 rfl) ?_
    refine lv_iadd hx hb dX3_serveBehind_28 ?_
    refine mt_te (y := 1) (by decide) ?_
    refine lv_icmp_ge (tgt := 70) hx hb dX3_serveBehind_29 (by decide) (fun c_20 => absurd c_20 (nI_ge (a := 0 + k) (b := 1) (by omega) (by omega))) (fun c_20 => ?_)
    refine lv_iload hx hb dX3_serveBehind_32 (lv_at hl 7 rfl) ?_
    refine lv_iload hx hb dX3_serveBehind_34 (lv_at hl 0 rfl) ?_
    refine lv_iadd hx hb dX3_serveBehind_36 ?_
    refine lv_istore (lv' := [(8, .int ((x * 1) + (nI (0 + k)))), (7, .int (nI (0 + k))), (0, .ref (ad (0))), (1, .int (x)), (2, .int (v)), (3, .int (0)), (4, .int (1)), (5, .int (0)), (6, .int (x * 1))]) hx hb dX3_serveBehind_37 hl (by decide) rfl (fun ls hl => ?_)
    refine lv_iload hx hb dX3_serveBehind_39 (lv_at hl 0 rfl) ?_
    refine mt_cS1 (As := [.int ((x * 1) + (nI (0 + k)))]) (rest := []) S ps_X3_isPlace mw_ml_X3_272 (k_X3_isPlace l hlt g z ad lc mc bc N (c_X3_serveBehind_l0G lc mc bc N G x v k) o d h6 h8 hb6 ((x * 1) + (nI (0 + k)))) hC hW hS rfl hl.1 rfl (Nat.le_of_ble_eq_true rfl) dX3_serveBehind_41 ⟨(Nat.le_of_ble_eq_true rfl), (Nat.le_of_ble_eq_true rfl)⟩ ⟨(Nat.le_of_ble_eq_true rfl), (Nat.le_of_ble_eq_true rfl)⟩ rfl (fun H locs hW hS => ?_)
    refine lv_if_eq (tgt := 64) hx hb dX3_serveBehind_44 (by decide) (fun c_21 => ?_) (fun c_21 => ?_)
    · refine lv_iinc (v := nI ((0 + k) + 1)) (lv' := [(7, .int (nI ((0 + k) + 1))), (8, .int ((x * 1) + (nI (0 + k)))), (0, .ref (ad (0))), (1, .int (x)), (2, .int (v)), (3, .int (0)), (4, .int (1)), (5, .int (0)), (6, .int (x * 1))]) hx hb dX3_serveBehind_64 hl (k := 1) rfl (nI_1 _) (by decide) rfl (fun ls hl => ?_)
      refine lv_goto (tgt := 23) hx hb dX3_serveBehind_67 (by decide) ?_
      have hW : mt_W g z (mt_wc g ad lc mc bc N (c_X3_serveBehind_l0G lc mc bc N G x v (k + 1)) o d) ad _ := hW.to (by rw [show c_X3_serveBehind_l0G lc mc bc N G x v (k + 1) = c_X3_serveBehind_l0G lc mc bc N G x v k from (by rw [c_X3_serveBehind_l0G, if_pos c_21])])
      have hl : lv_has ls 9 [(7, .int (nI (0 + (k + 1)))), (0, .ref (ad (0))), (1, .int (x)), (2, .int (v)), (3, .int (0)), (4, .int (1)), (5, .int (0)), (6, .int (x * 1))] := lv_sub hl [0, 2, 3, 4, 5, 6, 7, 8] rfl
      exact ih _ _ _ trivial hW hS hl
    · refine lv_aload_n hx hb dX3_serveBehind_47 rfl (lv_at hl 2 rfl) ?_
      refine mt_get S iw_X3 hC hW wc_0 rfl 5 (by decide) mw_fl_X3_34 rfl rfl dX3_serveBehind_48 ?_
      refine lv_iload hx hb dX3_serveBehind_51 (lv_at hl 0 rfl) ?_
      refine lv_iload_n hx hb dX3_serveBehind_53 rfl (lv_at hl 4 rfl) ?_
      refine wk_iast S hC hW hS ar_6 (c_isPlace_in c_21) dX3_serveBehind_54 (fun H locs hW hS => ?_)
      refine lv_aload_n hx hb dX3_serveBehind_55 rfl (lv_at hl 2 rfl) ?_
      refine mt_get S iw_X3 hC hW wc_0 rfl 6 (by decide) mw_fl_X3_37 rfl rfl dX3_serveBehind_56 ?_
      refine lv_iload hx hb dX3_serveBehind_59 (lv_at hl 0 rfl) ?_
      refine lv_iload hx hb dX3_serveBehind_61 (lv_at hl 1 rfl) ?_
      refine wk_iast S hC hW hS ar_7 (c_isPlace_in c_21) dX3_serveBehind_63 (fun H locs hW hS => ?_)
      refine lv_iinc (v := nI ((0 + k) + 1)) (lv' := [(7, .int (nI ((0 + k) + 1))), (8, .int ((x * 1) + (nI (0 + k)))), (0, .ref (ad (0))), (1, .int (x)), (2, .int (v)), (3, .int (0)), (4, .int (1)), (5, .int (0)), (6, .int (x * 1))]) hx hb dX3_serveBehind_64 hl (k := 1) rfl (nI_1 _) (by decide) rfl (fun ls hl => ?_)
      refine lv_goto (tgt := 23) hx hb dX3_serveBehind_67 (by decide) ?_
      have hW : mt_W g z (mt_wc g ad lc mc bc N (c_X3_serveBehind_l0G lc mc bc N G x v (k + 1)) o d) ad _ := hW.to (by rw [show c_X3_serveBehind_l0G lc mc bc N G x v (k + 1) = mt_gu (mt_gu (c_X3_serveBehind_l0G lc mc bc N G x v k) 6 ((x * 1) + (nI (0 + k))).toNatClampNeg v) 7 ((x * 1) + (nI (0 + k))).toNatClampNeg (nI (0 + k)) from (by rw [c_X3_serveBehind_l0G, if_neg c_21])])
      have hl : lv_has ls 9 [(7, .int (nI (0 + (k + 1)))), (0, .ref (ad (0))), (1, .int (x)), (2, .int (v)), (3, .int (0)), (4, .int (1)), (5, .int (0)), (6, .int (x * 1))] := lv_sub hl [0, 2, 3, 4, 5, 6, 7, 8] rfl
      exact ih _ _ _ trivial hW hS hl
def c_X3_serveAgain_bG (lc mc bc : Nat) (N G : Nat → Nat → Int32)  : Nat → Nat → Nat → Int32
  | 0 => G
  | k + 1 => ocase (c_X3_mountThere lc mc bc N (c_X3_serveAgain_bG lc mc bc N G k) (nI k)) (c_X3_serveAgain_bG lc mc bc N G k) (fun i_5 => c_X3_serveBehind_G lc mc bc N (c_X3_serveAgain_bG lc mc bc N G k) (c_X3_placeOf (N (150 + i_5) 2)) (nI k))
def c_X3_serveAgain_aG (lc mc bc : Nat) (N G : Nat → Nat → Int32)  : Nat → Nat → Nat → Int32
  | 0 => G
  | k + 1 => mt_gu (mt_gu (c_X3_serveAgain_aG lc mc bc N G k) 6 k (-1)) 7 k 0
def c_X3_serveAgain_G (lc mc bc : Nat) (N G : Nat → Nat → Int32)  : Nat → Nat → Int32 := c_X3_serveAgain_bG lc mc bc N (c_X3_serveAgain_aG lc mc bc N G 341) mc
set_option maxRecDepth 100000 in
set_option maxHeartbeats 4000000 in
theorem k_X3_serveAgain (l : Launch) (hlt : l.stackTraces = false) (g : mt_G) (z : Nat) (ad : Nat → Nat) (lc mc bc : Nat) (N G : Nat → Nat → Int32) (o : Nat → Int64) (d : mt_D) (h6 : lc ≤ 6) (h8 : mc ≤ 8) (hb6 : bc ≤ 6)   : mt_K l g z yX3_serveAgain cX3_serveAgain 3 none 2 48 0 0 [.ref (ad (0))] (mt_wc g ad lc mc bc N G o d) ad (.inr none) (mt_wc g ad lc mc bc N (c_X3_serveAgain_G lc mc bc N G) o d) ad := by
  refine mt_ofW (by decide +kernel) (Nat.le_of_ble_eq_true rfl) ?_
  intro p e s m args below meth c S hr9 hk hnm hout hC hW hS ls hl
  have hr := hr9
  have hx := S.1
  have hb := S.2.1
  have hl : lv_has ls 3 [(0, .ref (ad (0)))] := hl
  refine lv_iconst (v := 0) hx hb dX3_serveAgain_0 (by decide) ?_
  refine lv_istore_n (lv' := [(1, .int (0)), (0, .ref (ad (0)))]) hx hb dX3_serveAgain_1 rfl hl (by decide) rfl (fun ls hl => ?_)
  have hl : lv_has ls 3 [(1, .int (nI 0)), (0, .ref (ad (0)))] := lv_sub hl [0, 1] rfl
  have hW : mt_W g z (mt_wc g ad lc mc bc N (c_X3_serveAgain_aG lc mc bc N G 0) o d) ad _ := hW
  refine lp_up 341 (fun k => mt_wc g ad lc mc bc N (c_X3_serveAgain_aG lc mc bc N G k) o d) (fun k => [(1, .int (nI k)), (0, .ref (ad (0)))]) (fun _ => True) 0 (by omega) trivial hW hS hl (fun H locs ls hP hW hS hl => ?_) (fun k H locs ls hk0 hkn hP hW hS hl ih => ?_)
  · have hW : mt_W g z (mt_wc g ad lc mc bc N (c_X3_serveAgain_aG lc mc bc N G 341) o d) ad _ := hW
    have hl : lv_has ls 3 [(1, .int (nI 341)), (0, .ref (ad (0)))] := hl
    refine lv_iload_n hx hb dX3_serveAgain_2 rfl (lv_at hl 0 rfl) ?_
    refine lv_sipush (v := 341) hx hb dX3_serveAgain_3 (by decide) ?_
    refine lv_icmp_ge (tgt := 29) hx hb dX3_serveAgain_6 (by decide) (fun c_1 => ?_) (fun c_1 => absurd (nI_le (a := 341) (b := 341) (Nat.le_refl _) (by omega)) c_1)
    refine lv_iconst (v := 0) hx hb dX3_serveAgain_29 (by decide) ?_
    refine lv_istore_n (lv' := [(1, .int (0)), (0, .ref (ad (0)))]) hx hb dX3_serveAgain_30 rfl hl (by decide) rfl (fun ls hl => ?_)
    have hl : lv_has ls 3 [(1, .int (nI 0)), (0, .ref (ad (0)))] := lv_sub hl [0, 1] rfl
    have hW : mt_W g z (mt_wc g ad lc mc bc N (c_X3_serveAgain_bG lc mc bc N (c_X3_serveAgain_aG lc mc bc N G 341) 0) o d) ad _ := hW
    refine lp_up mc (fun k => mt_wc g ad lc mc bc N (c_X3_serveAgain_bG lc mc bc N (c_X3_serveAgain_aG lc mc bc N G 341) k) o d) (fun k => [(1, .int (nI k)), (0, .ref (ad (0)))]) (fun _ => True) 0 (by omega) trivial hW hS hl (fun H locs ls hP hW hS hl => ?_) (fun k H locs ls hk0 hkn hP hW hS hl ih => ?_)
    · have hW : mt_W g z (mt_wc g ad lc mc bc N (c_X3_serveAgain_bG lc mc bc N (c_X3_serveAgain_aG lc mc bc N G 341) mc) o d) ad _ := hW
      have hl : lv_has ls 3 [(1, .int (nI mc)), (0, .ref (ad (0)))] := hl
      refine lv_iload_n hx hb dX3_serveAgain_31 rfl (lv_at hl 0 rfl) ?_
      refine lv_aload_n hx hb dX3_serveAgain_32 rfl (lv_at hl 1 rfl) ?_
      refine mt_get S iw_X3 hC hW wc_0 rfl 8 (by decide) mw_fl_X3_82 rfl rfl dX3_serveAgain_33 ?_
      refine lv_icmp_ge (tgt := 67) hx hb dX3_serveAgain_36 (by decide) (fun c_2 => ?_) (fun c_2 => absurd (nI_le (a := mc) (b := mc) (Nat.le_refl _) (by omega)) c_2)
      have hW := hW.to (w1 := mt_wc g ad lc mc bc N (c_X3_serveAgain_G lc mc bc N G) o d) (by rw [c_X3_serveAgain_G])
      exact mt_rv S hr hk hW hS rfl (Nat.le_of_ble_eq_true rfl) (Nat.le_of_ble_eq_true rfl) dX3_serveAgain_67
    · have hW : mt_W g z (mt_wc g ad lc mc bc N (c_X3_serveAgain_bG lc mc bc N (c_X3_serveAgain_aG lc mc bc N G 341) k) o d) ad _ := hW
      have hl : lv_has ls 3 [(1, .int (nI k)), (0, .ref (ad (0)))] := hl
      refine lv_iload_n hx hb dX3_serveAgain_31 rfl (lv_at hl 0 rfl) ?_
      refine lv_aload_n hx hb dX3_serveAgain_32 rfl (lv_at hl 1 rfl) ?_
      refine mt_get S iw_X3 hC hW wc_0 rfl 8 (by decide) mw_fl_X3_82 rfl rfl dX3_serveAgain_33 ?_
      refine lv_icmp_ge (tgt := 67) hx hb dX3_serveAgain_36 (by decide) (fun c_3 => absurd c_3 (nI_ge (a := k) (b := mc) hkn (by omega))) (fun c_3 => ?_)
      refine lv_aload_n hx hb dX3_serveAgain_39 rfl (lv_at hl 1 rfl) ?_
      refine lv_iload_n hx hb dX3_serveAgain_40 rfl (lv_at hl 0 rfl) ?_
      rcases hq_4 : (c_X3_mountThere lc mc bc N (c_X3_serveAgain_bG lc mc bc N (c_X3_serveAgain_aG lc mc bc N G 341) k) (nI k)) with _ | i_5
      · refine mt_cV1 (v := .null) (As := [.int (nI k)]) (rest := []) S pv_X3_mountThere mw_ml_X3_101 (k_X3_mountThere l hlt g z ad lc mc bc N (c_X3_serveAgain_bG lc mc bc N (c_X3_serveAgain_aG lc mc bc N G 341) k) o d h6 h8 hb6 (nI k)) hC hW hS wc_0 rfl rfl rfl hl.1 rfl (Nat.le_of_ble_eq_true rfl) dX3_serveAgain_41 ⟨(Nat.le_of_ble_eq_true rfl), (Nat.le_of_ble_eq_true rfl)⟩ ⟨(Nat.le_of_ble_eq_true rfl), (Nat.le_of_ble_eq_true rfl)⟩ (congrArg (a₂ := none) (xr_a ad 150) hq_4) (fun H locs hW hS => ?_)
        refine lv_astore_nN (lv' := [(2, .null), (1, .int (nI k)), (0, .ref (ad (0)))]) hx hb dX3_serveAgain_44 rfl hl (by decide) rfl (fun ls hl => ?_)
        refine lv_aload_nN hx hb dX3_serveAgain_45 rfl (lv_at hl 0 rfl) ?_
        refine lv_ifnullN (tgt := 61) hx hb dX3_serveAgain_46 (by decide) ?_
        refine lv_iinc (v := nI (k + 1)) (lv' := [(1, .int (nI (k + 1))), (2, .null), (0, .ref (ad (0)))]) hx hb dX3_serveAgain_61 hl (k := 1) rfl (nI_1 _) (by decide) rfl (fun ls hl => ?_)
        refine lv_goto (tgt := 31) hx hb dX3_serveAgain_64 (by decide) ?_
        have hW : mt_W g z (mt_wc g ad lc mc bc N (c_X3_serveAgain_bG lc mc bc N (c_X3_serveAgain_aG lc mc bc N G 341) (k + 1)) o d) ad _ := hW.to (by rw [show c_X3_serveAgain_bG lc mc bc N (c_X3_serveAgain_aG lc mc bc N G 341) (k + 1) = c_X3_serveAgain_bG lc mc bc N (c_X3_serveAgain_aG lc mc bc N G 341) k from (by rw [c_X3_serveAgain_bG, ocase_n hq_4])])
        have hl : lv_has ls 3 [(1, .int (nI (k + 1))), (0, .ref (ad (0)))] := lv_sub hl [0, 2] rfl
        exact ih _ _ _ trivial hW hS hl
      · refine mt_cV1 (v := .ref (ad (150 + i_5))) (As := [.int (nI k)]) (rest := []) S pv_X3_mountThere mw_ml_X3_101 (k_X3_mountThere l hlt g z ad lc mc bc N (c_X3_serveAgain_bG lc mc bc N (c_X3_serveAgain_aG lc mc bc N G 341) k) o d h6 h8 hb6 (nI k)) hC hW hS wc_0 rfl rfl rfl hl.1 rfl (Nat.le_of_ble_eq_true rfl) dX3_serveAgain_41 ⟨(Nat.le_of_ble_eq_true rfl), (Nat.le_of_ble_eq_true rfl)⟩ ⟨(Nat.le_of_ble_eq_true rfl), (Nat.le_of_ble_eq_true rfl)⟩ (congrArg (a₂ := some i_5) (xr_a ad 150) hq_4) (fun H locs hW hS => ?_)
        have hi_i_5 := c_mountThere_lt hq_4
        refine lv_astore_n (lv' := [(2, .ref (ad (150 + i_5))), (1, .int (nI k)), (0, .ref (ad (0)))]) hx hb dX3_serveAgain_44 rfl hl (by decide) rfl (fun ls hl => ?_)
        refine lv_aload_n hx hb dX3_serveAgain_45 rfl (lv_at hl 0 rfl) ?_
        refine lv_ifnull hx hb dX3_serveAgain_46 ?_
        refine lv_aload_n hx hb dX3_serveAgain_49 rfl (lv_at hl 2 rfl) ?_
        refine lv_aload_n hx hb dX3_serveAgain_50 rfl (lv_at hl 0 rfl) ?_
        refine mt_getN S iw_X2 hC hW (wc_mnt h8 hi_i_5) rfl 2 (by decide) mw_fn_X3_107 rfl rfl dX3_serveAgain_51 ?_
        refine mt_cS1 (As := [.int (N (150 + i_5) 2)]) (rest := [.ref (ad (0))]) S ps_X3_placeOf mw_ml_X3_52 (k_X3_placeOf l hlt g z ad lc mc bc N (c_X3_serveAgain_bG lc mc bc N (c_X3_serveAgain_aG lc mc bc N G 341) k) o d h6 h8 hb6 (N (150 + i_5) 2)) hC hW hS rfl hl.1 rfl (Nat.le_of_ble_eq_true rfl) dX3_serveAgain_54 ⟨(Nat.le_of_ble_eq_true rfl), (Nat.le_of_ble_eq_true rfl)⟩ ⟨(Nat.le_of_ble_eq_true rfl), (Nat.le_of_ble_eq_true rfl)⟩ rfl (fun H locs hW hS => ?_)
        refine lv_iload_n hx hb dX3_serveAgain_57 rfl (lv_at hl 1 rfl) ?_
        refine mt_cVv (As := [.int (c_X3_placeOf (N (150 + i_5) 2)), .int (nI k)]) (rest := []) S pv_X3_serveBehind mw_ml_X3_268 (k_X3_serveBehind l hlt g z ad lc mc bc N (c_X3_serveAgain_bG lc mc bc N (c_X3_serveAgain_aG lc mc bc N G 341) k) o d h6 h8 hb6 (c_X3_placeOf (N (150 + i_5) 2)) (nI k)) hC hW hS wc_0 rfl rfl rfl hl.1 rfl (Nat.le_of_ble_eq_true rfl) dX3_serveAgain_58 ⟨(Nat.le_of_ble_eq_true rfl), (Nat.le_of_ble_eq_true rfl)⟩ ⟨(Nat.le_of_ble_eq_true rfl), (Nat.le_of_ble_eq_true rfl)⟩ rfl (fun H locs hW hS => ?_)
        refine lv_iinc (v := nI (k + 1)) (lv' := [(1, .int (nI (k + 1))), (2, .ref (ad (150 + i_5))), (0, .ref (ad (0)))]) hx hb dX3_serveAgain_61 hl (k := 1) rfl (nI_1 _) (by decide) rfl (fun ls hl => ?_)
        refine lv_goto (tgt := 31) hx hb dX3_serveAgain_64 (by decide) ?_
        have hW : mt_W g z (mt_wc g ad lc mc bc N (c_X3_serveAgain_bG lc mc bc N (c_X3_serveAgain_aG lc mc bc N G 341) (k + 1)) o d) ad _ := hW.to (by rw [show c_X3_serveAgain_bG lc mc bc N (c_X3_serveAgain_aG lc mc bc N G 341) (k + 1) = c_X3_serveBehind_G lc mc bc N (c_X3_serveAgain_bG lc mc bc N (c_X3_serveAgain_aG lc mc bc N G 341) k) (c_X3_placeOf (N (150 + i_5) 2)) (nI k) from (by rw [c_X3_serveAgain_bG, ocase_s hq_4])])
        have hl : lv_has ls 3 [(1, .int (nI (k + 1))), (0, .ref (ad (0)))] := lv_sub hl [0, 2] rfl
        exact ih _ _ _ trivial hW hS hl
  · have hW : mt_W g z (mt_wc g ad lc mc bc N (c_X3_serveAgain_aG lc mc bc N G k) o d) ad _ := hW
    have hl : lv_has ls 3 [(1, .int (nI k)), (0, .ref (ad (0)))] := hl
    refine lv_iload_n hx hb dX3_serveAgain_2 rfl (lv_at hl 0 rfl) ?_
    refine lv_sipush (v := 341) hx hb dX3_serveAgain_3 (by decide) ?_
    refine lv_icmp_ge (tgt := 29) hx hb dX3_serveAgain_6 (by decide) (fun c_6 => absurd c_6 (nI_ge (a := k) (b := 341) hkn (by omega))) (fun c_6 => ?_)
    refine lv_aload_n hx hb dX3_serveAgain_9 rfl (lv_at hl 1 rfl) ?_
    refine mt_get S iw_X3 hC hW wc_0 rfl 5 (by decide) mw_fl_X3_34 rfl rfl dX3_serveAgain_10 ?_
    refine lv_iload_n hx hb dX3_serveAgain_13 rfl (lv_at hl 0 rfl) ?_
    refine lv_iconst (v := -1) hx hb dX3_serveAgain_14 (by decide) ?_
    refine wk_iasn S hC hW hS ar_6 k rfl (by omega) (by decide) dX3_serveAgain_15 (fun H locs hW hS => ?_)
    refine lv_aload_n hx hb dX3_serveAgain_16 rfl (lv_at hl 1 rfl) ?_
    refine mt_get S iw_X3 hC hW wc_0 rfl 6 (by decide) mw_fl_X3_37 rfl rfl dX3_serveAgain_17 ?_
    refine lv_iload_n hx hb dX3_serveAgain_20 rfl (lv_at hl 0 rfl) ?_
    refine lv_iconst (v := 0) hx hb dX3_serveAgain_21 (by decide) ?_
    refine wk_iasn S hC hW hS ar_7 k rfl (by omega) (by decide) dX3_serveAgain_22 (fun H locs hW hS => ?_)
    refine lv_iinc (v := nI (k + 1)) (lv' := [(1, .int (nI (k + 1))), (0, .ref (ad (0)))]) hx hb dX3_serveAgain_23 hl (k := 0) rfl (nI_1 _) (by decide) rfl (fun ls hl => ?_)
    refine lv_goto (tgt := 2) hx hb dX3_serveAgain_26 (by decide) ?_
    have hW : mt_W g z (mt_wc g ad lc mc bc N (c_X3_serveAgain_aG lc mc bc N G (k + 1)) o d) ad _ := hW.to (by rw [show c_X3_serveAgain_aG lc mc bc N G (k + 1) = mt_gu (mt_gu (c_X3_serveAgain_aG lc mc bc N G k) 6 k (-1)) 7 k 0 from (by rw [c_X3_serveAgain_aG])])
    have hl : lv_has ls 3 [(1, .int (nI (k + 1))), (0, .ref (ad (0)))] := lv_sub hl [0, 1] rfl
    exact ih _ _ _ trivial hW hS hl

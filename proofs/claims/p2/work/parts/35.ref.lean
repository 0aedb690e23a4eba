def lqN (N : Nat → Nat → Int32) : Nat := (N 200 3).toNatClampNeg
def mqN (N : Nat → Nat → Int32) : Nat := (N 200 9).toNatClampNeg
def bqN (N : Nat → Nat → Int32) : Nat := (N 200 14).toNatClampNeg
/-- what holds of the reference between two calls -/
def MI (N G : Nat → Nat → Int32) : Prop := lqN N ≤ 6 ∧ mqN N ≤ 8 ∧ bqN N ≤ 6 ∧ N 200 3 = nI (lqN N) ∧ N 200 9 = nI (mqN N) ∧ N 200 14 = nI (bqN N) ∧ (∀ k, k < mqN N → IsP (G 205 k) ∧ (∃ j, j < lqN N ∧ G 206 k = nI j) ∧ (G 207 k = -1 ∨ ∃ j, j < lqN N ∧ G 207 k = nI j)) ∧ (∀ k, Bo (G 208 k) ∧ Bo (G 209 k) ∧ Bo (G 214 k)) ∧ ∀ k, k < 2046 → G 201 k = 2 → IsP (G 203 k)
theorem MI_t {N G : Nat → Nat → Int32} {v : Int32} (h : MI N G) : MI (mt_gu N 200 15 v) G := h
theorem inI_1 {x lo hi : Int32} (h : ¬ c_inI x lo hi = 0) : ¬ x < lo ∧ ¬ hi < x := by
  unfold c_inI at h
  by_cases h1 : x < lo
  · rw [if_pos h1] at h; exact absurd rfl h
  · rw [if_neg h1] at h
    by_cases h2 : hi < x
    · rw [if_pos h2] at h; exact absurd rfl h
    · exact ⟨h1, h2⟩
theorem inI_n {x : Int32} {n : Nat} (hn : n < 2 ^ 31) (h : ¬ c_inI x 0 (nI n - 1) = 0) : ∃ j, j < n ∧ x = nI j := by
  obtain ⟨h1, h2⟩ := inI_1 h
  obtain ⟨j, hj, rfl⟩ := nI_of h1
  refine ⟨j, ?_, rfl⟩
  cases n with
  | zero => exact absurd (show (nI 0 - 1 : Int32) < nI j from Int32.lt_of_lt_of_le (show (nI 0 - 1 : Int32) < 0 by decide) (Int32.not_lt.mp h1)) h2
  | succ n =>
    rw [nI_pred] at h2
    have h3 : ¬ n < j := fun q => h2 (nI_lt q hj)
    omega
theorem inI_m {N G : Nat → Nat → Int32} {x : Int32} (hM : MI N G) (h : ¬ c_inI x 0 (N 200 9 - 1) = 0) : ∃ j, j < mqN N ∧ x = nI j := by
  rw [hM.2.2.2.2.1] at h; exact inI_n (by have := hM.2.1; omega) h
theorem inI_l {N G : Nat → Nat → Int32} {x : Int32} (hM : MI N G) (h : ¬ c_inI x 0 (N 200 3 - 1) = 0) : ∃ j, j < lqN N ∧ x = nI j := by
  rw [hM.2.2.2.1] at h; exact inI_n (by have := hM.1; omega) h
theorem vp_m {N G : Nat → Nat → Int32} {x : Int32} (hM : MI N G) (h : ∃ j, j < mqN N ∧ x = nI j) : vp_in x 8 := by
  obtain ⟨j, hj, rfl⟩ := h
  exact vp_in_nI (by have := hM.2.1; omega) (by decide)
def c_X4_thrown (lc mc bc : Nat) (N G : Nat → Nat → Int32)  : Int32 := N 200 15
set_option maxRecDepth 100000 in
set_option maxHeartbeats 4000000 in
theorem k_X4_thrown (l : Launch) (hlt : l.stackTraces = false) (g : mt_G) (z : Nat) (ad : Nat → Nat) (lc mc bc : Nat) (N G : Nat → Nat → Int32) (o : Nat → Int64) (d : mt_D) (h6 : lc ≤ 6) (h8 : mc ≤ 8) (hb6 : bc ≤ 6)   : mt_K l g z yX4_thrown cX4_thrown 1 (some .int) 0 0 0 0 [.ref (ad (200))] (mt_wc g ad lc mc bc N G o d) ad (.inr (some (.int (c_X4_thrown lc mc bc N G)))) (mt_wc g ad lc mc bc N G o d) ad := by
  refine mt_ofW (by decide +kernel) (Nat.le_of_ble_eq_true rfl) ?_
  intro p e s m args below meth c S hr9 hk hnm hout hC hW hS ls hl
  have hr := hr9
  have hx := S.1
  have hb := S.2.1
  have hl : lv_has ls 1 [(0, .ref (ad (200)))] := hl
  refine lv_aload_n hx hb dX4_thrown_0 rfl (lv_at hl 0 rfl) ?_
  refine mt_get S iw_X4 hC hW wc_200 rfl 15 (by decide) mw_fl_X4_44 rfl rfl dX4_thrown_1 ?_
  exact mt_ri S hr hk hW hS (by rw [c_X4_thrown]) (Nat.le_of_ble_eq_true rfl) (Nat.le_of_ble_eq_true rfl) dX4_thrown_4
def c_X4_isLayer (lc mc bc : Nat) (N G : Nat → Nat → Int32) (x : Int32) : Int32 := c_inI x 0 ((N 200 3) - 1)
set_option maxRecDepth 100000 in
set_option maxHeartbeats 4000000 in
theorem k_X4_isLayer (l : Launch) (hlt : l.stackTraces = false) (g : mt_G) (z : Nat) (ad : Nat → Nat) (lc mc bc : Nat) (N G : Nat → Nat → Int32) (o : Nat → Int64) (d : mt_D) (h6 : lc ≤ 6) (h8 : mc ≤ 8) (hb6 : bc ≤ 6) (x : Int32)  : mt_K l g z yX4_isLayer cX4_isLayer 2 (some .boolean) 1 25 0 0 [.ref (ad (200)), .int x] (mt_wc g ad lc mc bc N G o d) ad (.inr (some (.int (c_X4_isLayer lc mc bc N G x)))) (mt_wc g ad lc mc bc N G o d) ad := by
  refine mt_ofW (by decide +kernel) (Nat.le_of_ble_eq_true rfl) ?_
  intro p e s m args below meth c S hr9 hk hnm hout hC hW hS ls hl
  have hr := hr9
  have hx := S.1
  have hb := S.2.1
  have hl : lv_has ls 2 [(0, .ref (ad (200))), (1, .int (x))] := hl
  refine lv_iload_n hx hb dX4_isLayer_0 rfl (lv_at hl 1 rfl) ?_
  refine lv_i2l (v := x.toInt64) hx hb dX4_isLayer_1 rfl ?_
  refine lv_lconst (v := 0) hx hb dX4_isLayer_2 (by decide) ?_
  refine lv_aload_n hx hb dX4_isLayer_3 rfl (lv_at hl 0 rfl) ?_
  refine mt_get S iw_X4 hC hW wc_200 rfl 3 (by decide) mw_fl_X4_64 rfl rfl dX4_isLayer_4 ?_
  refine lv_iconst (v := 1) hx hb dX4_isLayer_7 (by decide) ?_
  refine lv_isub hx hb dX4_isLayer_8 ?_
  refine lv_i2l (v := ((N 200 3) - 1).toInt64) hx hb dX4_isLayer_9 rfl ?_
  refine mt_cS1 (As := [.long (x.toInt64), .long (0), .long (((N 200 3) - 1).toInt64)]) (rest := []) S ps_X4_in mw_ml_X4_50 (k_X4_in l hlt g z ad lc mc bc N G o d h6 h8 hb6 x.toInt64 0 (((N 200 3) - 1).toInt64)) hC hW hS rfl hl.1 rfl (Nat.le_of_ble_eq_true rfl) dX4_isLayer_10 ⟨(Nat.le_of_ble_eq_true rfl), (Nat.le_of_ble_eq_true rfl)⟩ ⟨(Nat.le_of_ble_eq_true rfl), (Nat.le_of_ble_eq_true rfl)⟩ rfl (fun H locs hW hS => ?_)
  refine mt_te (y := c_inI x 0 ((N 200 3) - 1)) (in_s (lo := 0) (hi := ((N 200 3) - 1))) ?_
  exact mt_rz S hr hk (nar_b inI_b) hW hS (by rw [c_X4_isLayer]) (Nat.le_of_ble_eq_true rfl) (Nat.le_of_ble_eq_true rfl) dX4_isLayer_13
def c_X4_isUpper_ls (lc mc bc : Nat) (N G : Nat → Nat → Int32) (x : Int32) : Nat → Int32
  | 0 => 0
  | k + 1 => if (c_X4_isUpper_ls lc mc bc N G x k) = 0 then (if (G 208 k) = 0 then 0 else (if (G 207 k) = x then 1 else 0)) else 1
theorem c_X4_isUpper_ls_bo (lc mc bc : Nat) (N G : Nat → Nat → Int32) (x : Int32) (k : Nat) : Bo (c_X4_isUpper_ls lc mc bc N G x k) := by
  cases k <;> unfold c_X4_isUpper_ls <;> repeat' split
  all_goals first | exact Or.inl rfl | exact Or.inr rfl
def c_X4_isUpper (lc mc bc : Nat) (N G : Nat → Nat → Int32) (x : Int32) : Int32 := c_X4_isUpper_ls lc mc bc N G x (mqN N)
set_option maxRecDepth 100000 in
set_option maxHeartbeats 4000000 in
theorem k_X4_isUpper (l : Launch) (hlt : l.stackTraces = false) (g : mt_G) (z : Nat) (ad : Nat → Nat) (lc mc bc : Nat) (N G : Nat → Nat → Int32) (o : Nat → Int64) (d : mt_D) (h6 : lc ≤ 6) (h8 : mc ≤ 8) (hb6 : bc ≤ 6) (x : Int32) (hM : MI N G) : mt_K l g z yX4_isUpper cX4_isUpper 4 (some .boolean) 0 0 0 0 [.ref (ad (200)), .int x] (mt_wc g ad lc mc bc N G o d) ad (.inr (some (.int (c_X4_isUpper lc mc bc N G x)))) (mt_wc g ad lc mc bc N G o d) ad := by
  refine mt_ofW (by decide +kernel) (Nat.le_of_ble_eq_true rfl) ?_
  intro p e s m args below meth c S hr9 hk hnm hout hC hW hS ls hl
  have hr := hr9
  have hx := S.1
  have hb := S.2.1
  have hl : lv_has ls 4 [(0, .ref (ad (200))), (1, .int (x))] := hl
  refine lv_iconst (v := 0) hx hb dX4_isUpper_0 (by decide) ?_
  refine lv_istore_n (lv' := [(2, .int (0)), (0, .ref (ad (200))), (1, .int (x))]) hx hb dX4_isUpper_1 rfl hl (by decide) rfl (fun ls hl => ?_)
  refine lv_iconst (v := 0) hx hb dX4_isUpper_2 (by decide) ?_
  refine lv_istore_n (lv' := [(3, .int (0)), (2, .int (0)), (0, .ref (ad (200))), (1, .int (x))]) hx hb dX4_isUpper_3 rfl hl (by decide) rfl (fun ls hl => ?_)
  have hl : lv_has ls 4 [(3, .int (nI 0)), (2, .int (c_X4_isUpper_ls lc mc bc N G x 0)), (0, .ref (ad (200))), (1, .int (x))] := lv_sub hl [0, 1, 2, 3] rfl
  refine lp_up (mqN N) (fun k => mt_wc g ad lc mc bc N G o d) (fun k => [(3, .int (nI k)), (2, .int (c_X4_isUpper_ls lc mc bc N G x k)), (0, .ref (ad (200))), (1, .int (x))]) (fun _ => True) 0 (by omega) trivial hW hS hl (fun H locs ls hP hW hS hl => ?_) (fun k H locs ls hk0 hkn hP hW hS hl ih => ?_)
  · have hW : mt_W g z (mt_wc g ad lc mc bc N G o d) ad _ := hW
    have hl : lv_has ls 4 [(3, .int (nI (mqN N))), (2, .int (c_X4_isUpper_ls lc mc bc N G x (mqN N))), (0, .ref (ad (200))), (1, .int (x))] := hl
    refine lv_iload_n hx hb dX4_isUpper_4 rfl (lv_at hl 0 rfl) ?_
    refine lv_aload_n hx hb dX4_isUpper_5 rfl (lv_at hl 2 rfl) ?_
    refine mt_get S iw_X4 hC hW wc_200 rfl 9 (by decide) mw_fl_X4_67 rfl rfl dX4_isUpper_6 ?_
    refine lv_icmp_ge (tgt := 47) hx hb dX4_isUpper_9 (by decide) (fun c_1 => ?_) (fun c_1 => absurd pwx_e c_1)
    refine lv_iload_n hx hb dX4_isUpper_47 rfl (lv_at hl 1 rfl) ?_
    exact mt_rz S hr hk (nar_b (c_X4_isUpper_ls_bo ..)) hW hS (by rw [c_X4_isUpper]) (Nat.le_of_ble_eq_true rfl) (Nat.le_of_ble_eq_true rfl) dX4_isUpper_48
  · have hW : mt_W g z (mt_wc g ad lc mc bc N G o d) ad _ := hW
    have hl : lv_has ls 4 [(3, .int (nI k)), (2, .int (c_X4_isUpper_ls lc mc bc N G x k)), (0, .ref (ad (200))), (1, .int (x))] := hl
    refine lv_iload_n hx hb dX4_isUpper_4 rfl (lv_at hl 0 rfl) ?_
    refine lv_aload_n hx hb dX4_isUpper_5 rfl (lv_at hl 2 rfl) ?_
    refine mt_get S iw_X4 hC hW wc_200 rfl 9 (by decide) mw_fl_X4_67 rfl rfl dX4_isUpper_6 ?_
    refine lv_icmp_ge (tgt := 47) hx hb dX4_isUpper_9 (by decide) (fun c_2 => absurd c_2 (pwx_b hkn)) (fun c_2 => ?_)
    refine lv_iload_n hx hb dX4_isUpper_12 rfl (lv_at hl 1 rfl) ?_
    refine lv_if_ne (tgt := 35) hx hb dX4_isUpper_13 (by decide) (fun c_3 => ?_) (fun c_3 => ?_)
    · refine lv_iconst (v := 1) hx hb dX4_isUpper_35 (by decide) ?_
      refine lv_goto (tgt := 40) hx hb dX4_isUpper_36 (by decide) ?_
      refine lv_istore_n (lv' := [(2, .int (1)), (3, .int (nI k)), (0, .ref (ad (200))), (1, .int (x))]) hx hb dX4_isUpper_40 rfl hl (by decide) rfl (fun ls hl => ?_)
      refine lv_iinc (v := nI (k + 1)) (lv' := [(3, .int (nI (k + 1))), (2, .int (1)), (0, .ref (ad (200))), (1, .int (x))]) hx hb dX4_isUpper_41 hl (k := 1) rfl (nI_1 _) (by decide) rfl (fun ls hl => ?_)
      refine lv_goto (tgt := 4) hx hb dX4_isUpper_44 (by decide) ?_
      have hl : lv_has ls 4 [(3, .int (nI (k + 1))), (2, .int (c_X4_isUpper_ls lc mc bc N G x (k + 1))), (0, .ref (ad (200))), (1, .int (x))] := by rw [show c_X4_isUpper_ls lc mc bc N G x (k + 1) = 1 from (by rw [c_X4_isUpper_ls, if_neg c_3])]; exact lv_sub hl [0, 1, 2, 3] rfl
      exact ih _ _ _ trivial hW hS hl
    · refine lv_aload_n hx hb dX4_isUpper_16 rfl (lv_at hl 2 rfl) ?_
      refine mt_get S iw_X4 hC hW wc_200 rfl 7 (by decide) mw_fl_X4_28 rfl rfl dX4_isUpper_17 ?_
      refine lv_iload_n hx hb dX4_isUpper_20 rfl (lv_at hl 0 rfl) ?_
      refine wk_zaln S hC hW ar_208 k rfl (by have := hM.2.1; omega) (by decide) dX4_isUpper_21 ?_
      refine lv_if_eq (tgt := 39) hx hb dX4_isUpper_22 (by decide) (fun c_4 => ?_) (fun c_4 => ?_)
      · refine lv_iconst (v := 0) hx hb dX4_isUpper_39 (by decide) ?_
        refine lv_istore_n (lv' := [(2, .int (0)), (3, .int (nI k)), (0, .ref (ad (200))), (1, .int (x))]) hx hb dX4_isUpper_40 rfl hl (by decide) rfl (fun ls hl => ?_)
        refine lv_iinc (v := nI (k + 1)) (lv' := [(3, .int (nI (k + 1))), (2, .int (0)), (0, .ref (ad (200))), (1, .int (x))]) hx hb dX4_isUpper_41 hl (k := 1) rfl (nI_1 _) (by decide) rfl (fun ls hl => ?_)
        refine lv_goto (tgt := 4) hx hb dX4_isUpper_44 (by decide) ?_
        have hl : lv_has ls 4 [(3, .int (nI (k + 1))), (2, .int (c_X4_isUpper_ls lc mc bc N G x (k + 1))), (0, .ref (ad (200))), (1, .int (x))] := by rw [show c_X4_isUpper_ls lc mc bc N G x (k + 1) = 0 from (by rw [c_X4_isUpper_ls, if_pos c_3, if_pos c_4])]; exact lv_sub hl [0, 1, 2, 3] rfl
        exact ih _ _ _ trivial hW hS hl
      · refine lv_aload_n hx hb dX4_isUpper_25 rfl (lv_at hl 2 rfl) ?_
        refine mt_get S iw_X4 hC hW wc_200 rfl 6 (by decide) mw_fl_X4_25 rfl rfl dX4_isUpper_26 ?_
        refine lv_iload_n hx hb dX4_isUpper_29 rfl (lv_at hl 0 rfl) ?_
        refine wk_ialn S hC hW ar_207 k rfl (by have := hM.2.1; omega) (by decide) dX4_isUpper_30 ?_
        refine lv_iload_n hx hb dX4_isUpper_31 rfl (lv_at hl 3 rfl) ?_
        refine lv_icmp_ne (tgt := 39) hx hb dX4_isUpper_32 (by decide) (fun c_5 => ?_) (fun c_5 => ?_)
        · refine lv_iconst (v := 0) hx hb dX4_isUpper_39 (by decide) ?_
          refine lv_istore_n (lv' := [(2, .int (0)), (3, .int (nI k)), (0, .ref (ad (200))), (1, .int (x))]) hx hb dX4_isUpper_40 rfl hl (by decide) rfl (fun ls hl => ?_)
          refine lv_iinc (v := nI (k + 1)) (lv' := [(3, .int (nI (k + 1))), (2, .int (0)), (0, .ref (ad (200))), (1, .int (x))]) hx hb dX4_isUpper_41 hl (k := 1) rfl (nI_1 _) (by decide) rfl (fun ls hl => ?_)
          refine lv_goto (tgt := 4) hx hb dX4_isUpper_44 (by decide) ?_
          have hl : lv_has ls 4 [(3, .int (nI (k + 1))), (2, .int (c_X4_isUpper_ls lc mc bc N G x (k + 1))), (0, .ref (ad (200))), (1, .int (x))] := by rw [show c_X4_isUpper_ls lc mc bc N G x (k + 1) = 0 from (by rw [c_X4_isUpper_ls, if_pos c_3, if_neg c_4, if_neg c_5])]; exact lv_sub hl [0, 1, 2, 3] rfl
          exact ih _ _ _ trivial hW hS hl
        · refine lv_iconst (v := 1) hx hb dX4_isUpper_35 (by decide) ?_
          refine lv_goto (tgt := 40) hx hb dX4_isUpper_36 (by decide) ?_
          refine lv_istore_n (lv' := [(2, .int (1)), (3, .int (nI k)), (0, .ref (ad (200))), (1, .int (x))]) hx hb dX4_isUpper_40 rfl hl (by decide) rfl (fun ls hl => ?_)
          refine lv_iinc (v := nI (k + 1)) (lv' := [(3, .int (nI (k + 1))), (2, .int (1)), (0, .ref (ad (200))), (1, .int (x))]) hx hb dX4_isUpper_41 hl (k := 1) rfl (nI_1 _) (by decide) rfl (fun ls hl => ?_)
          refine lv_goto (tgt := 4) hx hb dX4_isUpper_44 (by decide) ?_
          have hl : lv_has ls 4 [(3, .int (nI (k + 1))), (2, .int (c_X4_isUpper_ls lc mc bc N G x (k + 1))), (0, .ref (ad (200))), (1, .int (x))] := by rw [show c_X4_isUpper_ls lc mc bc N G x (k + 1) = 1 from (by rw [c_X4_isUpper_ls, if_pos c_3, if_neg c_4, if_pos c_5])]; exact lv_sub hl [0, 1, 2, 3] rfl
          exact ih _ _ _ trivial hW hS hl
def c_X4_isUsed_ls (lc mc bc : Nat) (N G : Nat → Nat → Int32) (x : Int32) : Nat → Int32
  | 0 => 0
  | k + 1 => if (c_X4_isUsed_ls lc mc bc N G x k) = 0 then (if (G 208 k) = 0 then 0 else (if (G 207 k) = x then 1 else (if (G 206 k) = x then 1 else 0))) else 1
theorem c_X4_isUsed_ls_bo (lc mc bc : Nat) (N G : Nat → Nat → Int32) (x : Int32) (k : Nat) : Bo (c_X4_isUsed_ls lc mc bc N G x k) := by
  cases k <;> unfold c_X4_isUsed_ls <;> repeat' split
  all_goals first | exact Or.inl rfl | exact Or.inr rfl
def c_X4_isUsed (lc mc bc : Nat) (N G : Nat → Nat → Int32) (x : Int32) : Int32 := c_X4_isUsed_ls lc mc bc N G x (mqN N)
set_option maxRecDepth 100000 in
set_option maxHeartbeats 4000000 in
theorem k_X4_isUsed (l : Launch) (hlt : l.stackTraces = false) (g : mt_G) (z : Nat) (ad : Nat → Nat) (lc mc bc : Nat) (N G : Nat → Nat → Int32) (o : Nat → Int64) (d : mt_D) (h6 : lc ≤ 6) (h8 : mc ≤ 8) (hb6 : bc ≤ 6) (x : Int32) (hM : MI N G) : mt_K l g z yX4_isUsed cX4_isUsed 4 (some .boolean) 0 0 0 0 [.ref (ad (200)), .int x] (mt_wc g ad lc mc bc N G o d) ad (.inr (some (.int (c_X4_isUsed lc mc bc N G x)))) (mt_wc g ad lc mc bc N G o d) ad := by
  refine mt_ofW (by decide +kernel) (Nat.le_of_ble_eq_true rfl) ?_
  intro p e s m args below meth c S hr9 hk hnm hout hC hW hS ls hl
  have hr := hr9
  have hx := S.1
  have hb := S.2.1
  have hl : lv_has ls 4 [(0, .ref (ad (200))), (1, .int (x))] := hl
  refine lv_iconst (v := 0) hx hb dX4_isUsed_0 (by decide) ?_
  refine lv_istore_n (lv' := [(2, .int (0)), (0, .ref (ad (200))), (1, .int (x))]) hx hb dX4_isUsed_1 rfl hl (by decide) rfl (fun ls hl => ?_)
  refine lv_iconst (v := 0) hx hb dX4_isUsed_2 (by decide) ?_
  refine lv_istore_n (lv' := [(3, .int (0)), (2, .int (0)), (0, .ref (ad (200))), (1, .int (x))]) hx hb dX4_isUsed_3 rfl hl (by decide) rfl (fun ls hl => ?_)
  have hl : lv_has ls 4 [(3, .int (nI 0)), (2, .int (c_X4_isUsed_ls lc mc bc N G x 0)), (0, .ref (ad (200))), (1, .int (x))] := lv_sub hl [0, 1, 2, 3] rfl
  refine lp_up (mqN N) (fun k => mt_wc g ad lc mc bc N G o d) (fun k => [(3, .int (nI k)), (2, .int (c_X4_isUsed_ls lc mc bc N G x k)), (0, .ref (ad (200))), (1, .int (x))]) (fun _ => True) 0 (by omega) trivial hW hS hl (fun H locs ls hP hW hS hl => ?_) (fun k H locs ls hk0 hkn hP hW hS hl ih => ?_)
  · have hW : mt_W g z (mt_wc g ad lc mc bc N G o d) ad _ := hW
    have hl : lv_has ls 4 [(3, .int (nI (mqN N))), (2, .int (c_X4_isUsed_ls lc mc bc N G x (mqN N))), (0, .ref (ad (200))), (1, .int (x))] := hl
    refine lv_iload_n hx hb dX4_isUsed_4 rfl (lv_at hl 0 rfl) ?_
    refine lv_aload_n hx hb dX4_isUsed_5 rfl (lv_at hl 2 rfl) ?_
    refine mt_get S iw_X4 hC hW wc_200 rfl 9 (by decide) mw_fl_X4_67 rfl rfl dX4_isUsed_6 ?_
    refine lv_icmp_ge (tgt := 57) hx hb dX4_isUsed_9 (by decide) (fun c_1 => ?_) (fun c_1 => absurd pwx_e c_1)
    refine lv_iload_n hx hb dX4_isUsed_57 rfl (lv_at hl 1 rfl) ?_
    exact mt_rz S hr hk (nar_b (c_X4_isUsed_ls_bo ..)) hW hS (by rw [c_X4_isUsed]) (Nat.le_of_ble_eq_true rfl) (Nat.le_of_ble_eq_true rfl) dX4_isUsed_58
  · have hW : mt_W g z (mt_wc g ad lc mc bc N G o d) ad _ := hW
    have hl : lv_has ls 4 [(3, .int (nI k)), (2, .int (c_X4_isUsed_ls lc mc bc N G x k)), (0, .ref (ad (200))), (1, .int (x))] := hl
    refine lv_iload_n hx hb dX4_isUsed_4 rfl (lv_at hl 0 rfl) ?_
    refine lv_aload_n hx hb dX4_isUsed_5 rfl (lv_at hl 2 rfl) ?_
    refine mt_get S iw_X4 hC hW wc_200 rfl 9 (by decide) mw_fl_X4_67 rfl rfl dX4_isUsed_6 ?_
    refine lv_icmp_ge (tgt := 57) hx hb dX4_isUsed_9 (by decide) (fun c_2 => absurd c_2 (pwx_b hkn)) (fun c_2 => ?_)
    refine lv_iload_n hx hb dX4_isUsed_12 rfl (lv_at hl 1 rfl) ?_
    refine lv_if_ne (tgt := 45) hx hb dX4_isUsed_13 (by decide) (fun c_3 => ?_) (fun c_3 => ?_)
    · refine lv_iconst (v := 1) hx hb dX4_isUsed_45 (by decide) ?_
      refine lv_goto (tgt := 50) hx hb dX4_isUsed_46 (by decide) ?_
      refine lv_istore_n (lv' := [(2, .int (1)), (3, .int (nI k)), (0, .ref (ad (200))), (1, .int (x))]) hx hb dX4_isUsed_50 rfl hl (by decide) rfl (fun ls hl => ?_)
      refine lv_iinc (v := nI (k + 1)) (lv' := [(3, .int (nI (k + 1))), (2, .int (1)), (0, .ref (ad (200))), (1, .int (x))]) hx hb dX4_isUsed_51 hl (k := 1) rfl (nI_1 _) (by decide) rfl (fun ls hl => ?_)
      refine lv_goto (tgt := 4) hx hb dX4_isUsed_54 (by decide) ?_
      have hl : lv_has ls 4 [(3, .int (nI (k + 1))), (2, .int (c_X4_isUsed_ls lc mc bc N G x (k + 1))), (0, .ref (ad (200))), (1, .int (x))] := by rw [show c_X4_isUsed_ls lc mc bc N G x (k + 1) = 1 from (by rw [c_X4_isUsed_ls, if_neg c_3])]; exact lv_sub hl [0, 1, 2, 3] rfl
      exact ih _ _ _ trivial hW hS hl
    · refine lv_aload_n hx hb dX4_isUsed_16 rfl (lv_at hl 2 rfl) ?_
      refine mt_get S iw_X4 hC hW wc_200 rfl 7 (by decide) mw_fl_X4_28 rfl rfl dX4_isUsed_17 ?_
      refine lv_iload_n hx hb dX4_isUsed_20 rfl (lv_at hl 0 rfl) ?_
      refine wk_zaln S hC hW ar_208 k rfl (by have := hM.2.1; omega) (by decide) dX4_isUsed_21 ?_
      refine lv_if_eq (tgt := 49) hx hb dX4_isUsed_22 (by decide) (fun c_4 => ?_) (fun c_4 => ?_)
      · refine lv_iconst (v := 0) hx hb dX4_isUsed_49 (by decide) ?_
        refine lv_istore_n (lv' := [(2, .int (0)), (3, .int (nI k)), (0, .ref (ad (200))), (1, .int (x))]) hx hb dX4_isUsed_50 rfl hl (by decide) rfl (fun ls hl => ?_)
        refine lv_iinc (v := nI (k + 1)) (lv' := [(3, .int (nI (k + 1))), (2, .int (0)), (0, .ref (ad (200))), (1, .int (x))]) hx hb dX4_isUsed_51 hl (k := 1) rfl (nI_1 _) (by decide) rfl (fun ls hl => ?_)
        refine lv_goto (tgt := 4) hx hb dX4_isUsed_54 (by decide) ?_
        have hl : lv_has ls 4 [(3, .int (nI (k + 1))), (2, .int (c_X4_isUsed_ls lc mc bc N G x (k + 1))), (0, .ref (ad (200))), (1, .int (x))] := by rw [show c_X4_isUsed_ls lc mc bc N G x (k + 1) = 0 from (by rw [c_X4_isUsed_ls, if_pos c_3, if_pos c_4])]; exact lv_sub hl [0, 1, 2, 3] rfl
        exact ih _ _ _ trivial hW hS hl
      · refine lv_aload_n hx hb dX4_isUsed_25 rfl (lv_at hl 2 rfl) ?_
        refine mt_get S iw_X4 hC hW wc_200 rfl 6 (by decide) mw_fl_X4_25 rfl rfl dX4_isUsed_26 ?_
        refine lv_iload_n hx hb dX4_isUsed_29 rfl (lv_at hl 0 rfl) ?_
        refine wk_ialn S hC hW ar_207 k rfl (by have := hM.2.1; omega) (by decide) dX4_isUsed_30 ?_
        refine lv_iload_n hx hb dX4_isUsed_31 rfl (lv_at hl 3 rfl) ?_
        refine lv_icmp_eq (tgt := 45) hx hb dX4_isUsed_32 (by decide) (fun c_5 => ?_) (fun c_5 => ?_)
        · refine lv_iconst (v := 1) hx hb dX4_isUsed_45 (by decide) ?_
          refine lv_goto (tgt := 50) hx hb dX4_isUsed_46 (by decide) ?_
          refine lv_istore_n (lv' := [(2, .int (1)), (3, .int (nI k)), (0, .ref (ad (200))), (1, .int (x))]) hx hb dX4_isUsed_50 rfl hl (by decide) rfl (fun ls hl => ?_)
          refine lv_iinc (v := nI (k + 1)) (lv' := [(3, .int (nI (k + 1))), (2, .int (1)), (0, .ref (ad (200))), (1, .int (x))]) hx hb dX4_isUsed_51 hl (k := 1) rfl (nI_1 _) (by decide) rfl (fun ls hl => ?_)
          refine lv_goto (tgt := 4) hx hb dX4_isUsed_54 (by decide) ?_
          have hl : lv_has ls 4 [(3, .int (nI (k + 1))), (2, .int (c_X4_isUsed_ls lc mc bc N G x (k + 1))), (0, .ref (ad (200))), (1, .int (x))] := by rw [show c_X4_isUsed_ls lc mc bc N G x (k + 1) = 1 from (by rw [c_X4_isUsed_ls, if_pos c_3, if_neg c_4, if_pos c_5])]; exact lv_sub hl [0, 1, 2, 3] rfl
          exact ih _ _ _ trivial hW hS hl
        · refine lv_aload_n hx hb dX4_isUsed_35 rfl (lv_at hl 2 rfl) ?_
          refine mt_get S iw_X4 hC hW wc_200 rfl 5 (by decide) mw_fl_X4_22 rfl rfl dX4_isUsed_36 ?_
          refine lv_iload_n hx hb dX4_isUsed_39 rfl (lv_at hl 0 rfl) ?_
          refine wk_ialn S hC hW ar_206 k rfl (by have := hM.2.1; omega) (by decide) dX4_isUsed_40 ?_
          refine lv_iload_n hx hb dX4_isUsed_41 rfl (lv_at hl 3 rfl) ?_
          refine lv_icmp_ne (tgt := 49) hx hb dX4_isUsed_42 (by decide) (fun c_6 => ?_) (fun c_6 => ?_)
          · refine lv_iconst (v := 0) hx hb dX4_isUsed_49 (by decide) ?_
            refine lv_istore_n (lv' := [(2, .int (0)), (3, .int (nI k)), (0, .ref (ad (200))), (1, .int (x))]) hx hb dX4_isUsed_50 rfl hl (by decide) rfl (fun ls hl => ?_)
            refine lv_iinc (v := nI (k + 1)) (lv' := [(3, .int (nI (k + 1))), (2, .int (0)), (0, .ref (ad (200))), (1, .int (x))]) hx hb dX4_isUsed_51 hl (k := 1) rfl (nI_1 _) (by decide) rfl (fun ls hl => ?_)
            refine lv_goto (tgt := 4) hx hb dX4_isUsed_54 (by decide) ?_
            have hl : lv_has ls 4 [(3, .int (nI (k + 1))), (2, .int (c_X4_isUsed_ls lc mc bc N G x (k + 1))), (0, .ref (ad (200))), (1, .int (x))] := by rw [show c_X4_isUsed_ls lc mc bc N G x (k + 1) = 0 from (by rw [c_X4_isUsed_ls, if_pos c_3, if_neg c_4, if_neg c_5, if_neg c_6])]; exact lv_sub hl [0, 1, 2, 3] rfl
            exact ih _ _ _ trivial hW hS hl
          · refine lv_iconst (v := 1) hx hb dX4_isUsed_45 (by decide) ?_
            refine lv_goto (tgt := 50) hx hb dX4_isUsed_46 (by decide) ?_
            refine lv_istore_n (lv' := [(2, .int (1)), (3, .int (nI k)), (0, .ref (ad (200))), (1, .int (x))]) hx hb dX4_isUsed_50 rfl hl (by decide) rfl (fun ls hl => ?_)
            refine lv_iinc (v := nI (k + 1)) (lv' := [(3, .int (nI (k + 1))), (2, .int (1)), (0, .ref (ad (200))), (1, .int (x))]) hx hb dX4_isUsed_51 hl (k := 1) rfl (nI_1 _) (by decide) rfl (fun ls hl => ?_)
            refine lv_goto (tgt := 4) hx hb dX4_isUsed_54 (by decide) ?_
            have hl : lv_has ls 4 [(3, .int (nI (k + 1))), (2, .int (c_X4_isUsed_ls lc mc bc N G x (k + 1))), (0, .ref (ad (200))), (1, .int (x))] := by rw [show c_X4_isUsed_ls lc mc bc N G x (k + 1) = 1 from (by rw [c_X4_isUsed_ls, if_pos c_3, if_neg c_4, if_neg c_5, if_pos c_6])]; exact lv_sub hl [0, 1, 2, 3] rfl
            exact ih _ _ _ trivial hW hS hl
def c_X4_isMount (lc mc bc : Nat) (N G : Nat → Nat → Int32) (x : Int32) : Int32 := if (c_inI x 0 ((N 200 9) - 1)) = 0 then 0 else (if (G 208 x.toNatClampNeg) = 0 then 0 else 1)
set_option maxRecDepth 100000 in
set_option maxHeartbeats 4000000 in
theorem k_X4_isMount (l : Launch) (hlt : l.stackTraces = false) (g : mt_G) (z : Nat) (ad : Nat → Nat) (lc mc bc : Nat) (N G : Nat → Nat → Int32) (o : Nat → Int64) (d : mt_D) (h6 : lc ≤ 6) (h8 : mc ≤ 8) (hb6 : bc ≤ 6) (x : Int32) (hM : MI N G) : mt_K l g z yX4_isMount cX4_isMount 2 (some .boolean) 1 25 0 0 [.ref (ad (200)), .int x] (mt_wc g ad lc mc bc N G o d) ad (.inr (some (.int (c_X4_isMount lc mc bc N G x)))) (mt_wc g ad lc mc bc N G o d) ad := by
  refine mt_ofW (by decide +kernel) (Nat.le_of_ble_eq_true rfl) ?_
  intro p e s m args below meth c S hr9 hk hnm hout hC hW hS ls hl
  have hr := hr9
  have hx := S.1
  have hb := S.2.1
  have hl : lv_has ls 2 [(0, .ref (ad (200))), (1, .int (x))] := hl
  refine lv_iload_n hx hb dX4_isMount_0 rfl (lv_at hl 1 rfl) ?_
  refine lv_i2l (v := x.toInt64) hx hb dX4_isMount_1 rfl ?_
  refine lv_lconst (v := 0) hx hb dX4_isMount_2 (by decide) ?_
  refine lv_aload_n hx hb dX4_isMount_3 rfl (lv_at hl 0 rfl) ?_
  refine mt_get S iw_X4 hC hW wc_200 rfl 9 (by decide) mw_fl_X4_67 rfl rfl dX4_isMount_4 ?_
  refine lv_iconst (v := 1) hx hb dX4_isMount_7 (by decide) ?_
  refine lv_isub hx hb dX4_isMount_8 ?_
  refine lv_i2l (v := ((N 200 9) - 1).toInt64) hx hb dX4_isMount_9 rfl ?_
  refine mt_cS1 (As := [.long (x.toInt64), .long (0), .long (((N 200 9) - 1).toInt64)]) (rest := []) S ps_X4_in mw_ml_X4_50 (k_X4_in l hlt g z ad lc mc bc N G o d h6 h8 hb6 x.toInt64 0 (((N 200 9) - 1).toInt64)) hC hW hS rfl hl.1 rfl (Nat.le_of_ble_eq_true rfl) dX4_isMount_10 ⟨(Nat.le_of_ble_eq_true rfl), (Nat.le_of_ble_eq_true rfl)⟩ ⟨(Nat.le_of_ble_eq_true rfl), (Nat.le_of_ble_eq_true rfl)⟩ rfl (fun H locs hW hS => ?_)
  refine mt_te (y := c_inI x 0 ((N 200 9) - 1)) (in_s (lo := 0) (hi := ((N 200 9) - 1))) ?_
  refine lv_if_eq (tgt := 29) hx hb dX4_isMount_13 (by decide) (fun c_1 => ?_) (fun c_1 => ?_)
  · refine lv_iconst (v := 0) hx hb dX4_isMount_29 (by decide) ?_
    exact mt_rz S hr hk rfl hW hS (by rw [c_X4_isMount, if_pos c_1]) (Nat.le_of_ble_eq_true rfl) (Nat.le_of_ble_eq_true rfl) dX4_isMount_30
  · refine lv_aload_n hx hb dX4_isMount_16 rfl (lv_at hl 0 rfl) ?_
    refine mt_get S iw_X4 hC hW wc_200 rfl 7 (by decide) mw_fl_X4_28 rfl rfl dX4_isMount_17 ?_
    refine lv_iload_n hx hb dX4_isMount_20 rfl (lv_at hl 1 rfl) ?_
    refine wk_zald S hC hW ar_208 (vp_m hM (inI_m hM c_1)) dX4_isMount_21 ?_
    refine lv_if_eq (tgt := 29) hx hb dX4_isMount_22 (by decide) (fun c_2 => ?_) (fun c_2 => ?_)
    · refine lv_iconst (v := 0) hx hb dX4_isMount_29 (by decide) ?_
      exact mt_rz S hr hk rfl hW hS (by rw [c_X4_isMount, if_neg c_1, if_pos c_2]) (Nat.le_of_ble_eq_true rfl) (Nat.le_of_ble_eq_true rfl) dX4_isMount_30
    · refine lv_iconst (v := 1) hx hb dX4_isMount_25 (by decide) ?_
      refine lv_goto (tgt := 30) hx hb dX4_isMount_26 (by decide) ?_
      exact mt_rz S hr hk rfl hW hS (by rw [c_X4_isMount, if_neg c_1, if_neg c_2]) (Nat.le_of_ble_eq_true rfl) (Nat.le_of_ble_eq_true rfl) dX4_isMount_30

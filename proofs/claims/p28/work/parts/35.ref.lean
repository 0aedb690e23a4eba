def lqN (N : Nat → Nat → Int32) : Nat := (N 200 3).toNatClampNeg
def mqN (N : Nat → Nat → Int32) : Nat := (N 200 9).toNatClampNeg
def bqN (N : Nat → Nat → Int32) : Nat := (N 200 14).toNatClampNeg
/-- what holds of the reference between two calls -/
def MI (N G : Nat → Nat → Int32) : Prop := lqN N ≤ 6 ∧ mqN N ≤ 8 ∧ bqN N ≤ 6 ∧ N 200 3 = nI (lqN N) ∧ N 200 9 = nI (mqN N) ∧ N 200 14 = nI (bqN N) ∧ (∀ k, k < mqN N → IsP (G 205 k) ∧ (∃ j, j < lqN N ∧ G 206 k = nI j) ∧ (G 207 k = -1 ∨ ∃ j, j < lqN N ∧ G 207 k = nI j)) ∧ (∀ k, Bo (G 208 k) ∧ Bo (G 209 k) ∧ Bo (G 214 k)) ∧ ∀ k, k < 2046 → G 201 k = 2 → IsP (G 203 k)
theorem mt_gu2 {N : Nat → Nat → Int32} {k i : Nat} {x y : Int32} : mt_gu (mt_gu N k i x) k i y = mt_gu N k i y := by
  funext a b; unfold mt_gu; by_cases h : a = k ∧ b = i <;> simp [h]
theorem MI_t {N G : Nat → Nat → Int32} {v : Int32} (h : MI N G) : MI (mt_gu N 200 15 v) G := h
theorem inI_1 {x lo hi : Int32} (h : ¬ c_inI x lo hi = 0) : ¬ x < lo ∧ ¬ hi < x := by
  unfold c_inI at h
  by_cases h1 : x < lo
  · rw [if_pos h1] at h; exact absurd rfl h
  · rw [if_neg h1] at h
    by_cases h2 : hi < x
    · rw [if_pos h2] at h; exact absurd rfl h
    · exact ⟨h1, h2⟩
theorem inI_n {x : Int32} {n : Nat} (hn : n < 2 ^ 31) (h : ¬ c_inI x 0 (nI n - 1) = 0) : ∃ j, j < n ∧ x = nI j := by
  obtain ⟨h1, h2⟩ := inI_1 h
  obtain ⟨j, hj, rfl⟩ := nI_of h1
  refine ⟨j, ?_, rfl⟩
  cases n with
  | zero => exact absurd (show (nI 0 - 1 : Int32) < nI j from Int32.lt_of_lt_of_le (show (nI 0 - 1 : Int32) < 0 by decide) (Int32.not_lt.mp h1)) h2
  | succ n =>
    rw [nI_pred] at h2
    have h3 : ¬ n < j := fun q => h2 (nI_lt q hj)
    omega
theorem inI_m {N G : Nat → Nat → Int32} {x : Int32} (hM : MI N G) (h : ¬ c_inI x 0 (N 200 9 - 1) = 0) : ∃ j, j < mqN N ∧ x = nI j := by
  rw [hM.2.2.2.2.1] at h; exact inI_n (by have := hM.2.1; omega) h
theorem inI_l {N G : Nat → Nat → Int32} {x : Int32} (hM : MI N G) (h : ¬ c_inI x 0 (N 200 3 - 1) = 0) : ∃ j, j < lqN N ∧ x = nI j := by
  rw [hM.2.2.2.1] at h; exact inI_n (by have := hM.1; omega) h
theorem vp_m {N G : Nat → Nat → Int32} {x : Int32} (hM : MI N G) (h : ∃ j, j < mqN N ∧ x = nI j) : vp_in x 8 := by
  obtain ⟨j, hj, rfl⟩ := h
  exact vp_in_nI (by have := hM.2.1; omega) (by decide)
def c_X4_thrown (lc mc bc : Nat) (N G : Nat → Nat → Int32)  : Int32 := N 200 15
set_option maxRecDepth 100000 in
set_option maxHeartbeats 4000000 in
theorem k_X4_thrown (l : Launch) (hlt : l.stackTraces = false) (g : mt_G) (z : Nat) (ad : Nat → Nat) (lc mc bc : Nat) (N G : Nat → Nat → Int32) (o : Nat → Int64) (d : mt_D) (h6 : lc ≤ 6) (h8 : mc ≤ 8) (hb6 : bc ≤ 6)   : mt_K l g z yX4_thrown cX4_thrown 1 (some .int) 0 0 0 0 [.ref (ad (200))] (mt_wc g ad lc mc bc N G o d) ad (.inr (some (.int (c_X4_thrown lc mc bc N G)))) (mt_wc g ad lc mc bc N G o d) ad := by
  refine mt_ofW (by decide +kernel) (Nat.le_of_ble_eq_true rfl) ?_
  intro p e s m args below meth c S hr9 hk hnm hout hC hW hS ls hl
  have hr := hr9
  have hx := S.1
  have hb := S.2.1
  have hl : lv_has ls 1 [(0, .ref (ad (200)))] := hl
  refine lv_aload_n hx hb dX4_thrown_0 rfl (lv_at hl 0 rfl) ?_
  refine mt_get S iw_X4 hC hW wc_200 rfl 15 (by decide) mw_fl_X4_44 rfl rfl dX4_thrown_1 ?_
  exact mt_ri S hr hk hW hS (by rw [c_X4_thrown]) (Nat.le_of_ble_eq_true rfl) (Nat.le_of_ble_eq_true rfl) dX4_thrown_4
def c_X4_isLayer (lc mc bc : Nat) (N G : Nat → Nat → Int32) (x : Int32) : Int32 := c_inI x 0 ((N 200 3) - 1)
set_option maxRecDepth 100000 in
set_option maxHeartbeats 4000000 in
theorem k_X4_isLayer (l : Launch) (hlt : l.stackTraces = false) (g : mt_G) (z : Nat) (ad : Nat → Nat) (lc mc bc : Nat) (N G : Nat → Nat → Int32) (o : Nat → Int64) (d : mt_D) (h6 : lc ≤ 6) (h8 : mc ≤ 8) (hb6 : bc ≤ 6) (x : Int32)  : mt_K l g z yX4_isLayer cX4_isLayer 2 (some .boolean) 1 25 0 0 [.ref (ad (200)), .int x] (mt_wc g ad lc mc bc N G o d) ad (.inr (some (.int (c_X4_isLayer lc mc bc N G x)))) (mt_wc g ad lc mc bc N G o d) ad := by
  refine mt_ofW (by decide +kernel) (Nat.le_of_ble_eq_true rfl) ?_
  intro p e s m args below meth c S hr9 hk hnm hout hC hW hS ls hl
  have hr := hr9
  have hx := S.1
  have hb := S.2.1
  have hl : lv_has ls 2 [(0, .ref (ad (200))), (1, .int (x))] := hl
  refine lv_iload_n hx hb dX4_isLayer_0 rfl (lv_at hl 1 rfl) ?_
  refine lv_i2l (v := x.toInt64) hx hb dX4_isLayer_1 rfl ?_
  refine lv_lconst (v := 0) hx hb dX4_isLayer_2 (by decide) ?_
  refine lv_aload_n hx hb dX4_isLayer_3 rfl (lv_at hl 0 rfl) ?_
  refine mt_get S iw_X4 hC hW wc_200 rfl 3 (by decide) mw_fl_X4_64 rfl rfl dX4_isLayer_4 ?_
  refine lv_iconst (v := 1) hx hb dX4_isLayer_7 (by decide) ?_
  refine lv_isub hx hb dX4_isLayer_8 ?_
  refine lv_i2l (v := ((N 200 3) - 1).toInt64) hx hb dX4_isLayer_9 rfl ?_
  refine mt_cS1 (As := [.long (x.toInt64), .long (0), .long (((N 200 3) - 1).toInt64)]) (rest := []) S ps_X4_in mw_ml_X4_50 (k_X4_in l hlt g z ad lc mc bc N G o d h6 h8 hb6 x.toInt64 0 (((N 200 3) - 1).toInt64)) hC hW hS rfl hl.1 rfl (Nat.le_of_ble_eq_true rfl) dX4_isLayer_10 ⟨(Nat.le_of_ble_eq_true rfl), (Nat.le_of_ble_eq_true rfl)⟩ ⟨(Nat.le_of_ble_eq_true rfl), (Nat.le_of_ble_eq_true rfl)⟩ rfl (fun H locs hW hS => ?_)
  refine mt_te (y := c_inI x 0 ((N 200 3) - 1)) (in_s (lo := 0) (hi := ((N 200 3) - 1))) ?_
  exact mt_rz S hr hk (nar_b inI_b) hW hS (by rw [c_X4_isLayer]) (Nat.le_of_ble_eq_true rfl) (Nat.le_of_ble_eq_true rfl) dX4_isLayer_13
def c_X4_isUpper_ls (lc mc bc : Nat) (N G : Nat → Nat → Int32) (x : Int32) : Nat → Int32
  | 0 => 0
  | k + 1 => if (c_X4_isUpper_ls lc mc bc N G x k) = 0 then (if (G 208 k) = 0 then 0 else (if (G 207 k) = x then 1 else 0)) else 1
theorem c_X4_isUpper_ls_bo (lc mc bc : Nat) (N G : Nat → Nat → Int32) (x : Int32) (k : Nat) : Bo (c_X4_isUpper_ls lc mc bc N G x k) := by
  cases k <;> unfold c_X4_isUpper_ls <;> repeat' split
  all_goals first | exact Or.inl rfl | exact Or.inr rfl
def c_X4_isUpper (lc mc bc : Nat) (N G : Nat → Nat → Int32) (x : Int32) : Int32 := c_X4_isUpper_ls lc mc bc N G x (mqN N)
set_option maxRecDepth 100000 in
set_option maxHeartbeats 4000000 in
theorem k_X4_isUpper (l : Launch) (hlt : l.stackTraces = false) (g : mt_G) (z : Nat) (ad : Nat → Nat) (lc mc bc : Nat) (N G : Nat → Nat → Int32) (o : Nat → Int64) (d : mt_D) (h6 : lc ≤ 6) (h8 : mc ≤ 8) (hb6 : bc ≤ 6) (x : Int32) (hM : MI N G) : mt_K l g z yX4_isUpper cX4_isUpper 4 (some .boolean) 0 0 0 0 [.ref (ad (200)), .int x] (mt_wc g ad lc mc bc N G o d) ad (.inr (some (.int (c_X4_isUpper lc mc bc N G x)))) (mt_wc g ad lc mc bc N G o d) ad := by
  refine mt_ofW (by decide +kernel) (Nat.le_of_ble_eq_true rfl) ?_
  intro p e s m args below meth c S hr9 hk hnm hout hC hW hS ls hl
  have hr := hr9
  have hx := S.1
  have hb := S.2.1
  have hl : lv_has ls 4 [(0, .ref (ad (200))), (1, .int (x))] := hl
  refine lv_iconst (v := 0) hx hb dX4_isUpper_0 (by decide) ?_
  refine lv_istore_n (lv' := [(2, .int (0)), (0, .ref (ad (200))), (1, .int (x))]) hx hb dX4_isUpper_1 rfl hl (by decide) rfl (fun ls hl => ?_)
  refine lv_iconst (v := 0) hx hb dX4_isUpper_2 (by decide) ?_
  refine lv_istore_n (lv' := [(3, .int (0)), (2, .int (0)), (0, .ref (ad (200))), (1, .int (x))]) hx hb dX4_isUpper_3 rfl hl (by decide) rfl (fun ls hl => ?_)
  have hl : lv_has ls 4 [(3, .int (nI 0)), (2, .int (c_X4_isUpper_ls lc mc bc N G x 0)), (0, .ref (ad (200))), (1, .int (x))] := lv_sub hl [0, 1, 2, 3] rfl
  refine lp_up (mqN N) (fun k => mt_wc g ad lc mc bc N G o d) (fun k => [(3, .int (nI k)), (2, .int (c_X4_isUpper_ls lc mc bc N G x k)), (0, .ref (ad (200))), (1, .int (x))]) (fun _ => True) 0 (by omega) trivial hW hS hl (fun H locs ls hP hW hS hl => ?_) (fun k H locs ls hk0 hkn hP hW hS hl ih => ?_)
  · have hW : mt_W g z (mt_wc g ad lc mc bc N G o d) ad _ := hW
    have hl : lv_has ls 4 [(3, .int (nI (mqN N))), (2, .int (c_X4_isUpper_ls lc mc bc N G x (mqN N))), (0, .ref (ad (200))), (1, .int (x))] := hl
    refine lv_iload_n hx hb dX4_isUpper_4 rfl (lv_at hl 0 rfl) ?_
    refine lv_aload_n hx hb dX4_isUpper_5 rfl (lv_at hl 2 rfl) ?_
    refine mt_get S iw_X4 hC hW wc_200 rfl 9 (by decide) mw_fl_X4_67 rfl rfl dX4_isUpper_6 ?_
    refine lv_icmp_ge (tgt := 47) hx hb dX4_isUpper_9 (by decide) (fun c_1 => ?_) (fun c_1 => absurd pwx_e c_1)
    refine lv_iload_n hx hb dX4_isUpper_47 rfl (lv_at hl 1 rfl) ?_
    exact mt_rz S hr hk (nar_b (c_X4_isUpper_ls_bo ..)) hW hS (by rw [c_X4_isUpper]) (Nat.le_of_ble_eq_true rfl) (Nat.le_of_ble_eq_true rfl) dX4_isUpper_48
  · have hW : mt_W g z (mt_wc g ad lc mc bc N G o d) ad _ := hW
    have hl : lv_has ls 4 [(3, .int (nI k)), (2, .int (c_X4_isUpper_ls lc mc bc N G x k)), (0, .ref (ad (200))), (1, .int (x))] := hl
    refine lv_iload_n hx hb dX4_isUpper_4 rfl (lv_at hl 0 rfl) ?_
    refine lv_aload_n hx hb dX4_isUpper_5 rfl (lv_at hl 2 rfl) ?_
    refine mt_get S iw_X4 hC hW wc_200 rfl 9 (by decide) mw_fl_X4_67 rfl rfl dX4_isUpper_6 ?_
    refine lv_icmp_ge (tgt := 47) hx hb dX4_isUpper_9 (by decide) (fun c_2 => absurd c_2 (pwx_b hkn)) (fun c_2 => ?_)
    refine lv_iload_n hx hb dX4_isUpper_12 rfl (lv_at hl 1 rfl) ?_
    refine lv_if_ne (tgt := 35) hx hb dX4_isUpper_13 (by decide) (fun c_3 => ?_) (fun c_3 => ?_)
    · refine lv_iconst (v := 1) hx hb dX4_isUpper_35 (by decide) ?_
      refine lv_goto (tgt := 40) hx hb dX4_isUpper_36 (by decide) ?_
      refine lv_istore_n (lv' := [(2, .int (1)), (3, .int (nI k)), (0, .ref (ad (200))), (1, .int (x))]) hx hb dX4_isUpper_40 rfl hl (by decide) rfl (fun ls hl => ?_)
      refine lv_iinc (v := nI (k + 1)) (lv' := [(3, .int (nI (k + 1))), (2, .int (1)), (0, .ref (ad (200))), (1, .int (x))]) hx hb dX4_isUpper_41 hl (k := 1) rfl (nI_1 _) (by decide) rfl (fun ls hl => ?_)
      refine lv_goto (tgt := 4) hx hb dX4_isUpper_44 (by decide) ?_
      have hl : lv_has ls 4 [(3, .int (nI (k + 1))), (2, .int (c_X4_isUpper_ls lc mc bc N G x (k + 1))), (0, .ref (ad (200))), (1, .int (x))] := by rw [show c_X4_isUpper_ls lc mc bc N G x (k + 1) = 1 from (by rw [c_X4_isUpper_ls, if_neg c_3])]; exact lv_sub hl [0, 1, 2, 3] rfl
      exact ih _ _ _ trivial hW hS hl
    · refine lv_aload_n hx hb dX4_isUpper_16 rfl (lv_at hl 2 rfl) ?_
      refine mt_get S iw_X4 hC hW wc_200 rfl 7 (by decide) mw_fl_X4_28 rfl rfl dX4_isUpper_17 ?_
      refine lv_iload_n hx hb dX4_isUpper_20 rfl (lv_at hl 0 rfl) ?_
      refine wk_zaln S hC hW ar_208 k rfl (by have := hM.2.1; omega) (by decide) dX4_isUpper_21 ?_
      refine lv_if_eq (tgt := 39) hx hb dX4_isUpper_22 (by decide) (fun c_4 => ?_) (fun c_4 => ?_)
      · refine lv_iconst (v := 0) hx hb dX4_isUpper_39 (by decide) ?_
        refine lv_istore_n (lv' := [(2, .int (0)), (3, .int (nI k)), (0, .ref (ad (200))), (1, .int (x))]) hx hb dX4_isUpper_40 rfl hl (by decide) rfl (fun ls hl => ?_)
        refine lv_iinc (v := nI (k + 1)) (lv' := [(3, .int (nI (k + 1))), (2, .int (0)), (0, .ref (ad (200))), (1, .int (x))]) hx hb dX4_isUpper_41 hl (k := 1) rfl (nI_1 _) (by decide) rfl (fun ls hl => ?_)
        refine lv_goto (tgt := 4) hx hb dX4_isUpper_44 (by decide) ?_
        have hl : lv_has ls 4 [(3, .int (nI (k + 1))), (2, .int (c_X4_isUpper_ls lc mc bc N G x (k + 1))), (0, .ref (ad (200))), (1, .int (x))] := by rw [show c_X4_isUpper_ls lc mc bc N G x (k + 1) = 0 from (by rw [c_X4_isUpper_ls, if_pos c_3, if_pos c_4])]; exact lv_sub hl [0, 1, 2, 3] rfl
        exact ih _ _ _ trivial hW hS hl
      · refine lv_aload_n hx hb dX4_isUpper_25 rfl (lv_at hl 2 rfl) ?_
        refine mt_get S iw_X4 hC hW wc_200 rfl 6 (by decide) mw_fl_X4_25 rfl rfl dX4_isUpper_26 ?_
        refine lv_iload_n hx hb dX4_isUpper_29 rfl (lv_at hl 0 rfl) ?_
        refine wk_ialn S hC hW ar_207 k rfl (by have := hM.2.1; omega) (by decide) dX4_isUpper_30 ?_
        refine lv_iload_n hx hb dX4_isUpper_31 rfl (lv_at hl 3 rfl) ?_
        refine lv_icmp_ne (tgt := 39) hx hb dX4_isUpper_32 (by decide) (fun c_5 => ?_) (fun c_5 => ?_)
        · refine lv_iconst (v := 0) hx hb dX4_isUpper_39 (by decide) ?_
          refine lv_istore_n (lv' := [(2, .int (0)), (3, .int (nI k)), (0, .ref (ad (200))), (1, .int (x))]) hx hb dX4_isUpper_40 rfl hl (by decide) rfl (fun ls hl => ?_)
          refine lv_iinc (v := nI (k + 1)) (lv' := [(3, .int (nI (k + 1))), (2, .int (0)), (0, .ref (ad (200))), (1, .int (x))]) hx hb dX4_isUpper_41 hl (k := 1) rfl (nI_1 _) (by decide) rfl (fun ls hl => ?_)
          refine lv_goto (tgt := 4) hx hb dX4_isUpper_44 (by decide) ?_
          have hl : lv_has ls 4 [(3, .int (nI (k + 1))), (2, .int (c_X4_isUpper_ls lc mc bc N G x (k + 1))), (0, .ref (ad (200))), (1, .int (x))] := by rw [show c_X4_isUpper_ls lc mc bc N G x (k + 1) = 0 from (by rw [c_X4_isUpper_ls, if_pos c_3, if_neg c_4, if_neg c_5])]; exact lv_sub hl [0, 1, 2, 3] rfl
          exact ih _ _ _ trivial hW hS hl
        · refine lv_iconst (v := 1) hx hb dX4_isUpper_35 (by decide) ?_
          refine lv_goto (tgt := 40) hx hb dX4_isUpper_36 (by decide) ?_
          refine lv_istore_n (lv' := [(2, .int (1)), (3, .int (nI k)), (0, .ref (ad (200))), (1, .int (x))]) hx hb dX4_isUpper_40 rfl hl (by decide) rfl (fun ls hl => ?_)
          refine lv_iinc (v := nI (k + 1)) (lv' := [(3, .int (nI (k + 1))), (2, .int (1)), (0, .ref (ad (200))), (1, .int (x))]) hx hb dX4_isUpper_41 hl (k := 1) rfl (nI_1 _) (by decide) rfl (fun ls hl => ?_)
          refine lv_goto (tgt := 4) hx hb dX4_isUpper_44 (by decide) ?_
          have hl : lv_has ls 4 [(3, .int (nI (k + 1))), (2, .int (c_X4_isUpper_ls lc mc bc N G x (k + 1))), (0, .ref (ad (200))), (1, .int (x))] := by rw [show c_X4_isUpper_ls lc mc bc N G x (k + 1) = 1 from (by rw [c_X4_isUpper_ls, if_pos c_3, if_neg c_4, if_pos c_5])]; exact lv_sub hl [0, 1, 2, 3] rfl
          exact ih _ _ _ trivial hW hS hl
def c_X4_isUsed_ls (lc mc bc : Nat) (N G : Nat → Nat → Int32) (x : Int32) : Nat → Int32
  | 0 => 0
  | k + 1 => if (c_X4_isUsed_ls lc mc bc N G x k) = 0 then (if (G 208 k) = 0 then 0 else (if (G 207 k) = x then 1 else (if (G 206 k) = x then 1 else 0))) else 1
theorem c_X4_isUsed_ls_bo (lc mc bc : Nat) (N G : Nat → Nat → Int32) (x : Int32) (k : Nat) : Bo (c_X4_isUsed_ls lc mc bc N G x k) := by
  cases k <;> unfold c_X4_isUsed_ls <;> repeat' split
  all_goals first | exact Or.inl rfl | exact Or.inr rfl
def c_X4_isUsed (lc mc bc : Nat) (N G : Nat → Nat → Int32) (x : Int32) : Int32 := c_X4_isUsed_ls lc mc bc N G x (mqN N)
set_option maxRecDepth 100000 in
set_option maxHeartbeats 4000000 in
theorem k_X4_isUsed (l : Launch) (hlt : l.stackTraces = false) (g : mt_G) (z : Nat) (ad : Nat → Nat) (lc mc bc : Nat) (N G : Nat → Nat → Int32) (o : Nat → Int64) (d : mt_D) (h6 : lc ≤ 6) (h8 : mc ≤ 8) (hb6 : bc ≤ 6) (x : Int32) (hM : MI N G) : mt_K l g z yX4_isUsed cX4_isUsed 4 (some .boolean) 0 0 0 0 [.ref (ad (200)), .int x] (mt_wc g ad lc mc bc N G o d) ad (.inr (some (.int (c_X4_isUsed lc mc bc N G x)))) (mt_wc g ad lc mc bc N G o d) ad := by
  refine mt_ofW (by decide +kernel) (Nat.le_of_ble_eq_true rfl) ?_
  intro p e s m args below meth c S hr9 hk hnm hout hC hW hS ls hl
  have hr := hr9
  have hx := S.1
  have hb := S.2.1
  have hl : lv_has ls 4 [(0, .ref (ad (200))), (1, .int (x))] := hl
  refine lv_iconst (v := 0) hx hb dX4_isUsed_0 (by decide) ?_
  refine lv_istore_n (lv' := [(2, .int (0)), (0, .ref (ad (200))), (1, .int (x))]) hx hb dX4_isUsed_1 rfl hl (by decide) rfl (fun ls hl => ?_)
  refine lv_iconst (v := 0) hx hb dX4_isUsed_2 (by decide) ?_
  refine lv_istore_n (lv' := [(3, .int (0)), (2, .int (0)), (0, .ref (ad (200))), (1, .int (x))]) hx hb dX4_isUsed_3 rfl hl (by decide) rfl (fun ls hl => ?_)
  have hl : lv_has ls 4 [(3, .int (nI 0)), (2, .int (c_X4_isUsed_ls lc mc bc N G x 0)), (0, .ref (ad (200))), (1, .int (x))] := lv_sub hl [0, 1, 2, 3] rfl
  refine lp_up (mqN N) (fun k => mt_wc g ad lc mc bc N G o d) (fun k => [(3, .int (nI k)), (2, .int (c_X4_isUsed_ls lc mc bc N G x k)), (0, .ref (ad (200))), (1, .int (x))]) (fun _ => True) 0 (by omega) trivial hW hS hl (fun H locs ls hP hW hS hl => ?_) (fun k H locs ls hk0 hkn hP hW hS hl ih => ?_)
  · have hW : mt_W g z (mt_wc g ad lc mc bc N G o d) ad _ := hW
    have hl : lv_has ls 4 [(3, .int (nI (mqN N))), (2, .int (c_X4_isUsed_ls lc mc bc N G x (mqN N))), (0, .ref (ad (200))), (1, .int (x))] := hl
    refine lv_iload_n hx hb dX4_isUsed_4 rfl (lv_at hl 0 rfl) ?_
    refine lv_aload_n hx hb dX4_isUsed_5 rfl (lv_at hl 2 rfl) ?_
    refine mt_get S iw_X4 hC hW wc_200 rfl 9 (by decide) mw_fl_X4_67 rfl rfl dX4_isUsed_6 ?_
    refine lv_icmp_ge (tgt := 57) hx hb dX4_isUsed_9 (by decide) (fun c_1 => ?_) (fun c_1 => absurd pwx_e c_1)
    refine lv_iload_n hx hb dX4_isUsed_57 rfl (lv_at hl 1 rfl) ?_
    exact mt_rz S hr hk (nar_b (c_X4_isUsed_ls_bo ..)) hW hS (by rw [c_X4_isUsed]) (Nat.le_of_ble_eq_true rfl) (Nat.le_of_ble_eq_true rfl) dX4_isUsed_58
  · have hW : mt_W g z (mt_wc g ad lc mc bc N G o d) ad _ := hW
    have hl : lv_has ls 4 [(3, .int (nI k)), (2, .int (c_X4_isUsed_ls lc mc bc N G x k)), (0, .ref (ad (200))), (1, .int (x))] := hl
    refine lv_iload_n hx hb dX4_isUsed_4 rfl (lv_at hl 0 rfl) ?_
    refine lv_aload_n hx hb dX4_isUsed_5 rfl (lv_at hl 2 rfl) ?_
    refine mt_get S iw_X4 hC hW wc_200 rfl 9 (by decide) mw_fl_X4_67 rfl rfl dX4_isUsed_6 ?_
    refine lv_icmp_ge (tgt := 57) hx hb dX4_isUsed_9 (by decide) (fun c_2 => absurd c_2 (pwx_b hkn)) (fun c_2 => ?_)
    refine lv_iload_n hx hb dX4_isUsed_12 rfl (lv_at hl 1 rfl) ?_
    refine lv_if_ne (tgt := 45) hx hb dX4_isUsed_13 (by decide) (fun c_3 => ?_) (fun c_3 => ?_)
    · refine lv_iconst (v := 1) hx hb dX4_isUsed_45 (by decide) ?_
      refine lv_goto (tgt := 50) hx hb dX4_isUsed_46 (by decide) ?_
      refine lv_istore_n (lv' := [(2, .int (1)), (3, .int (nI k)), (0, .ref (ad (200))), (1, .int (x))]) hx hb dX4_isUsed_50 rfl hl (by decide) rfl (fun ls hl => ?_)
      refine lv_iinc (v := nI (k + 1)) (lv' := [(3, .int (nI (k + 1))), (2, .int (1)), (0, .ref (ad (200))), (1, .int (x))]) hx hb dX4_isUsed_51 hl (k := 1) rfl (nI_1 _) (by decide) rfl (fun ls hl => ?_)
      refine lv_goto (tgt := 4) hx hb dX4_isUsed_54 (by decide) ?_
      have hl : lv_has ls 4 [(3, .int (nI (k + 1))), (2, .int (c_X4_isUsed_ls lc mc bc N G x (k + 1))), (0, .ref (ad (200))), (1, .int (x))] := by rw [show c_X4_isUsed_ls lc mc bc N G x (k + 1) = 1 from (by rw [c_X4_isUsed_ls, if_neg c_3])]; exact lv_sub hl [0, 1, 2, 3] rfl
      exact ih _ _ _ trivial hW hS hl
    · refine lv_aload_n hx hb dX4_isUsed_16 rfl (lv_at hl 2 rfl) ?_
      refine mt_get S iw_X4 hC hW wc_200 rfl 7 (by decide) mw_fl_X4_28 rfl rfl dX4_isUsed_17 ?_
      refine lv_iload_n hx hb dX4_isUsed_20 rfl (lv_at hl 0 rfl) ?_
      refine wk_zaln S hC hW ar_208 k rfl (by have := hM.2.1; omega) (by decide) dX4_isUsed_21 ?_
      refine lv_if_eq (tgt := 49) hx hb dX4_isUsed_22 (by decide) (fun c_4 => ?_) (fun c_4 => ?_)
      · refine lv_iconst (v := 0) hx hb dX4_isUsed_49 (by decide) ?_
        refine lv_istore_n (lv' := [(2, .int (0)), (3, .int (nI k)), (0, .ref (ad (200))), (1, .int (x))]) hx hb dX4_isUsed_50 rfl hl (by decide) rfl (fun ls hl => ?_)
        refine lv_iinc (v := nI (k + 1)) (lv' := [(3, .int (nI (k + 1))), (2, .int (0)), (0, .ref (ad (200))), (1, .int (x))]) hx hb dX4_isUsed_51 hl (k := 1) rfl (nI_1 _) (by decide) rfl (fun ls hl => ?_)
        refine lv_goto (tgt := 4) hx hb dX4_isUsed_54 (by decide) ?_
        have hl : lv_has ls 4 [(3, .int (nI (k + 1))), (2, .int (c_X4_isUsed_ls lc mc bc N G x (k + 1))), (0, .ref (ad (200))), (1, .int (x))] := by rw [show c_X4_isUsed_ls lc mc bc N G x (k + 1) = 0 from (by rw [c_X4_isUsed_ls, if_pos c_3, if_pos c_4])]; exact lv_sub hl [0, 1, 2, 3] rfl
        exact ih _ _ _ trivial hW hS hl
      · refine lv_aload_n hx hb dX4_isUsed_25 rfl (lv_at hl 2 rfl) ?_
        refine mt_get S iw_X4 hC hW wc_200 rfl 6 (by decide) mw_fl_X4_25 rfl rfl dX4_isUsed_26 ?_
        refine lv_iload_n hx hb dX4_isUsed_29 rfl (lv_at hl 0 rfl) ?_
        refine wk_ialn S hC hW ar_207 k rfl (by have := hM.2.1; omega) (by decide) dX4_isUsed_30 ?_
        refine lv_iload_n hx hb dX4_isUsed_31 rfl (lv_at hl 3 rfl) ?_
        refine lv_icmp_eq (tgt := 45) hx hb dX4_isUsed_32 (by decide) (fun c_5 => ?_) (fun c_5 => ?_)
        · refine lv_iconst (v := 1) hx hb dX4_isUsed_45 (by decide) ?_
          refine lv_goto (tgt := 50) hx hb dX4_isUsed_46 (by decide) ?_
          refine lv_istore_n (lv' := [(2, .int (1)), (3, .int (nI k)), (0, .ref (ad (200))), (1, .int (x))]) hx hb dX4_isUsed_50 rfl hl (by decide) rfl (fun ls hl => ?_)
          refine lv_iinc (v := nI (k + 1)) (lv' := [(3, .int (nI (k + 1))), (2, .int (1)), (0, .ref (ad (200))), (1, .int (x))]) hx hb dX4_isUsed_51 hl (k := 1) rfl (nI_1 _) (by decide) rfl (fun ls hl => ?_)
          refine lv_goto (tgt := 4) hx hb dX4_isUsed_54 (by decide) ?_
          have hl : lv_has ls 4 [(3, .int (nI (k + 1))), (2, .int (c_X4_isUsed_ls lc mc bc N G x (k + 1))), (0, .ref (ad (200))), (1, .int (x))] := by rw [show c_X4_isUsed_ls lc mc bc N G x (k + 1) = 1 from (by rw [c_X4_isUsed_ls, if_pos c_3, if_neg c_4, if_pos c_5])]; exact lv_sub hl [0, 1, 2, 3] rfl
          exact ih _ _ _ trivial hW hS hl
        · refine lv_aload_n hx hb dX4_isUsed_35 rfl (lv_at hl 2 rfl) ?_
          refine mt_get S iw_X4 hC hW wc_200 rfl 5 (by decide) mw_fl_X4_22 rfl rfl dX4_isUsed_36 ?_
          refine lv_iload_n hx hb dX4_isUsed_39 rfl (lv_at hl 0 rfl) ?_
          refine wk_ialn S hC hW ar_206 k rfl (by have := hM.2.1; omega) (by decide) dX4_isUsed_40 ?_
          refine lv_iload_n hx hb dX4_isUsed_41 rfl (lv_at hl 3 rfl) ?_
          refine lv_icmp_ne (tgt := 49) hx hb dX4_isUsed_42 (by decide) (fun c_6 => ?_) (fun c_6 => ?_)
          · refine lv_iconst (v := 0) hx hb dX4_isUsed_49 (by decide) ?_
            refine lv_istore_n (lv' := [(2, .int (0)), (3, .int (nI k)), (0, .ref (ad (200))), (1, .int (x))]) hx hb dX4_isUsed_50 rfl hl (by decide) rfl (fun ls hl => ?_)
            refine lv_iinc (v := nI (k + 1)) (lv' := [(3, .int (nI (k + 1))), (2, .int (0)), (0, .ref (ad (200))), (1, .int (x))]) hx hb dX4_isUsed_51 hl (k := 1) rfl (nI_1 _) (by decide) rfl (fun ls hl => ?_)
            refine lv_goto (tgt := 4) hx hb dX4_isUsed_54 (by decide) ?_
            have hl : lv_has ls 4 [(3, .int (nI (k + 1))), (2, .int (c_X4_isUsed_ls lc mc bc N G x (k + 1))), (0, .ref (ad (200))), (1, .int (x))] := by rw [show c_X4_isUsed_ls lc mc bc N G x (k + 1) = 0 from (by rw [c_X4_isUsed_ls, if_pos c_3, if_neg c_4, if_neg c_5, if_neg c_6])]; exact lv_sub hl [0, 1, 2, 3] rfl
            exact ih _ _ _ trivial hW hS hl
          · refine lv_iconst (v := 1) hx hb dX4_isUsed_45 (by decide) ?_
            refine lv_goto (tgt := 50) hx hb dX4_isUsed_46 (by decide) ?_
            refine lv_istore_n (lv' := [(2, .int (1)), (3, .int (nI k)), (0, .ref (ad (200))), (1, .int (x))]) hx hb dX4_isUsed_50 rfl hl (by decide) rfl (fun ls hl => ?_)
            refine lv_iinc (v := nI (k + 1)) (lv' := [(3, .int (nI (k + 1))), (2, .int (1)), (0, .ref (ad (200))), (1, .int (x))]) hx hb dX4_isUsed_51 hl (k := 1) rfl (nI_1 _) (by decide) rfl (fun ls hl => ?_)
            refine lv_goto (tgt := 4) hx hb dX4_isUsed_54 (by decide) ?_
            have hl : lv_has ls 4 [(3, .int (nI (k + 1))), (2, .int (c_X4_isUsed_ls lc mc bc N G x (k + 1))), (0, .ref (ad (200))), (1, .int (x))] := by rw [show c_X4_isUsed_ls lc mc bc N G x (k + 1) = 1 from (by rw [c_X4_isUsed_ls, if_pos c_3, if_neg c_4, if_neg c_5, if_pos c_6])]; exact lv_sub hl [0, 1, 2, 3] rfl
            exact ih _ _ _ trivial hW hS hl
def c_X4_isMount (lc mc bc : Nat) (N G : Nat → Nat → Int32) (x : Int32) : Int32 := if (c_inI x 0 ((N 200 9) - 1)) = 0 then 0 else (if (G 208 x.toNatClampNeg) = 0 then 0 else 1)
set_option maxRecDepth 100000 in
set_option maxHeartbeats 4000000 in
theorem k_X4_isMount (l : Launch) (hlt : l.stackTraces = false) (g : mt_G) (z : Nat) (ad : Nat → Nat) (lc mc bc : Nat) (N G : Nat → Nat → Int32) (o : Nat → Int64) (d : mt_D) (h6 : lc ≤ 6) (h8 : mc ≤ 8) (hb6 : bc ≤ 6) (x : Int32) (hM : MI N G) : mt_K l g z yX4_isMount cX4_isMount 2 (some .boolean) 1 25 0 0 [.ref (ad (200)), .int x] (mt_wc g ad lc mc bc N G o d) ad (.inr (some (.int (c_X4_isMount lc mc bc N G x)))) (mt_wc g ad lc mc bc N G o d) ad := by
  refine mt_ofW (by decide +kernel) (Nat.le_of_ble_eq_true rfl) ?_
  intro p e s m args below meth c S hr9 hk hnm hout hC hW hS ls hl
  have hr := hr9
  have hx := S.1
  have hb := S.2.1
  have hl : lv_has ls 2 [(0, .ref (ad (200))), (1, .int (x))] := hl
  refine lv_iload_n hx hb dX4_isMount_0 rfl (lv_at hl 1 rfl) ?_
  refine lv_i2l (v := x.toInt64) hx hb dX4_isMount_1 rfl ?_
  refine lv_lconst (v := 0) hx hb dX4_isMount_2 (by decide) ?_
  refine lv_aload_n hx hb dX4_isMount_3 rfl (lv_at hl 0 rfl) ?_
  refine mt_get S iw_X4 hC hW wc_200 rfl 9 (by decide) mw_fl_X4_67 rfl rfl dX4_isMount_4 ?_
  refine lv_iconst (v := 1) hx hb dX4_isMount_7 (by decide) ?_
  refine lv_isub hx hb dX4_isMount_8 ?_
  refine lv_i2l (v := ((N 200 9) - 1).toInt64) hx hb dX4_isMount_9 rfl ?_
  refine mt_cS1 (As := [.long (x.toInt64), .long (0), .long (((N 200 9) - 1).toInt64)]) (rest := []) S ps_X4_in mw_ml_X4_50 (k_X4_in l hlt g z ad lc mc bc N G o d h6 h8 hb6 x.toInt64 0 (((N 200 9) - 1).toInt64)) hC hW hS rfl hl.1 rfl (Nat.le_of_ble_eq_true rfl) dX4_isMount_10 ⟨(Nat.le_of_ble_eq_true rfl), (Nat.le_of_ble_eq_true rfl)⟩ ⟨(Nat.le_of_ble_eq_true rfl), (Nat.le_of_ble_eq_true rfl)⟩ rfl (fun H locs hW hS => ?_)
  refine mt_te (y := c_inI x 0 ((N 200 9) - 1)) (in_s (lo := 0) (hi := ((N 200 9) - 1))) ?_
  refine lv_if_eq (tgt := 29) hx hb dX4_isMount_13 (by decide) (fun c_1 => ?_) (fun c_1 => ?_)
  · refine lv_iconst (v := 0) hx hb dX4_isMount_29 (by decide) ?_
    exact mt_rz S hr hk rfl hW hS (by rw [c_X4_isMount, if_pos c_1]) (Nat.le_of_ble_eq_true rfl) (Nat.le_of_ble_eq_true rfl) dX4_isMount_30
  · refine lv_aload_n hx hb dX4_isMount_16 rfl (lv_at hl 0 rfl) ?_
    refine mt_get S iw_X4 hC hW wc_200 rfl 7 (by decide) mw_fl_X4_28 rfl rfl dX4_isMount_17 ?_
    refine lv_iload_n hx hb dX4_isMount_20 rfl (lv_at hl 1 rfl) ?_
    refine wk_zald S hC hW ar_208 (vp_m hM (inI_m hM c_1)) dX4_isMount_21 ?_
    refine lv_if_eq (tgt := 29) hx hb dX4_isMount_22 (by decide) (fun c_2 => ?_) (fun c_2 => ?_)
    · refine lv_iconst (v := 0) hx hb dX4_isMount_29 (by decide) ?_
      exact mt_rz S hr hk rfl hW hS (by rw [c_X4_isMount, if_neg c_1, if_pos c_2]) (Nat.le_of_ble_eq_true rfl) (Nat.le_of_ble_eq_true rfl) dX4_isMount_30
    · refine lv_iconst (v := 1) hx hb dX4_isMount_25 (by decide) ?_
      refine lv_goto (tgt := 30) hx hb dX4_isMount_26 (by decide) ?_
      exact mt_rz S hr hk rfl hW hS (by rw [c_X4_isMount, if_neg c_1, if_neg c_2]) (Nat.le_of_ble_eq_true rfl) (Nat.le_of_ble_eq_true rfl) dX4_isMount_30
theorem MI_pt {N G : Nat → Nat → Int32} {k : Nat} (h : MI N G) (hk : k < mqN N) : IsP (G 205 k) := (h.2.2.2.2.2.2.1 k hk).1
theorem MI_lo {N G : Nat → Nat → Int32} {k : Nat} (h : MI N G) (hk : k < mqN N) : ∃ j, j < lqN N ∧ G 206 k = nI j := (h.2.2.2.2.2.2.1 k hk).2.1
theorem MI_up {N G : Nat → Nat → Int32} {k : Nat} (h : MI N G) (hk : k < mqN N) : G 207 k = -1 ∨ ∃ j, j < lqN N ∧ G 207 k = nI j := (h.2.2.2.2.2.2.1 k hk).2.2
theorem isPath_N {a : Nat} (ha : a < 2 ^ 31) (k : Nat) (h : c_X4_isPath_ls (nI a) k ≠ 0) : a ≤ 4444 ∧ ∀ i, i < k → 1 ≤ a / 10 ^ i % 10 ∧ a / 10 ^ i % 10 ≤ 4 := by
  induction k with
  | zero =>
    rw [c_X4_isPath_ls] at h
    obtain ⟨h1, h2⟩ := inI_1 h
    rw [show (4444 : Int32) = nI 4444 by decide] at h2
    exact ⟨Nat.not_lt.mp (fun q => h2 (nI_lt q ha)), fun i hi => by omega⟩
  | succ k ih =>
    rw [c_X4_isPath_ls] at h
    by_cases h1 : c_X4_isPath_ls (nI a) k = 0
    · rw [if_pos h1] at h; exact absurd rfl h
    · rw [if_neg h1] at h
      by_cases h2 : c_inI (lft (nI a) k - lft (nI a) k / 10 * 10) 1 4 = 0
      · rw [if_pos h2] at h; exact absurd rfl h
      · obtain ⟨g1, g2⟩ := ih h1
        refine ⟨g1, fun i hi => ?_⟩
        rcases Nat.lt_succ_iff_lt_or_eq.mp hi with h3 | rfl
        · exact g2 i h3
        · obtain ⟨q1, q2⟩ := inI_1 h2
          have hq : a / 10 ^ i < 2 ^ 31 := Nat.lt_of_le_of_lt (Nat.div_le_self _ _) ha
          rw [lft_N ha, show (10 : Int32) = nI 10 by decide, nI_modN hq (by decide)] at q1 q2
          rw [show (1 : Int32) = nI 1 by decide] at q1
          rw [show (4 : Int32) = nI 4 by decide] at q2
          have hm : a / 10 ^ i % 10 < 10 := Nat.mod_lt _ (by decide)
          generalize a / 10 ^ i % 10 = m at q1 q2 hm ⊢
          rw [nI_ltI (by omega) (by decide)] at q1
          rw [nI_ltI (by decide) (by omega)] at q2
          omega
theorem okd_of (n a : Nat) : a < 10 ^ n → (∀ i, a / 10 ^ i ≠ 0 → 1 ≤ a / 10 ^ i % 10 ∧ a / 10 ^ i % 10 ≤ 4) → okd n a = true := by
  induction n generalizing a with
  | zero => intro _ _; rfl
  | succ n ih =>
    intro h1 h2
    rw [okd]
    by_cases h0 : a = 0
    · rw [if_pos h0]
    · rw [if_neg h0]
      have h3 := h2 0 (by rw [Nat.pow_zero, Nat.div_one]; exact h0)
      rw [Nat.pow_zero, Nat.div_one] at h3
      have h4 := ih (a / 10) (by rw [Nat.pow_succ] at h1; omega) (fun i hi => by
        have h5 := h2 (i + 1)
        rw [Nat.pow_succ, Nat.mul_comm (10 ^ i) 10, ← Nat.div_div_eq_div_mul] at h5
        exact h5 hi)
      rw [h4]
      simp [h3.1, h3.2]
theorem isP_of {x : Int32} (h : ¬ c_X4_isPath x = 0) : IsP x := by
  unfold c_X4_isPath at h
  by_cases h0 : x < 0
  · exfalso
    have e : kx x = 0 := by unfold kx; rw [if_pos h0]
    rw [e, c_X4_isPath_ls] at h
    exact (inI_1 h).1 h0
  · obtain ⟨a, ha, rfl⟩ := nI_of h0
    obtain ⟨h1, h2⟩ := isPath_N ha _ h
    have e : kx (nI a) = dgN 10 a := by unfold kx; rw [if_neg h0, nI_clamp ha]
    rw [e] at h2
    have h3 := okd_of 4 a (by omega) (fun i hi => h2 i ((dgN_s 10 a i (by omega)).mpr hi))
    obtain ⟨g1, g2⟩ := pt_of h1 h3
    have h4 := (isP_pth g1).1
    rwa [g2] at h4
theorem isP_1 {x : Int32} (h : IsP x) : c_X4_isPath x = 1 := by
  have key : ∀ r, r < 341 → c_X4_isPath (nI (pth r)) = 1 := by decide +kernel
  have h1 := key _ h.2
  rwa [← h.1] at h1
theorem pt_cut : ∀ r, r < 341 → ∀ j, j < 5 → j ≤ dn r → pth r % 10 ^ j = pth (r - 4 ^ j * anc r j) ∧ pth r / 10 ^ j = pth (anc r j) ∧ 4 ^ j * anc r j ≤ r := by decide +kernel
theorem pw10_N : ∀ j, j < 5 → c_pw 10 j = nI (10 ^ j) := by decide +kernel
theorem pt_inj {a b : Nat} (ha : a < 341) (hb : b < 341) (h : pth a = pth b) : a = b := by rw [← pt_rk a ha, h, pt_rk b hb]
/-- a path and one that it begins with, by ranks -/
theorem bg_eq {x y : Int32} (hx : IsP x) (hy : IsP y) (h : ¬ c_X4_begins x y = 0) : dn (rkI y) ≤ dn (rkI x) ∧ anc (rkI x) (dn (rkI x) - dn (rkI y)) = rkI y := by
  unfold c_X4_begins c_X4_digits at h
  have hlx := dn_le (rkI x)
  have hly := dn_le (rkI y)
  by_cases h1 : nI (dn (rkI x)) - nI (dn (rkI y)) < 0
  · rw [if_pos h1] at h; exact absurd rfl h
  · rw [if_neg h1] at h
    have h2 : dn (rkI y) ≤ dn (rkI x) := by
      have key : ∀ a, a < 5 → ∀ b, b < 5 → ¬ nI a - nI b < 0 → b ≤ a := by decide +kernel
      exact key _ (by omega) _ (by omega) h1
    refine ⟨h2, ?_⟩
    rw [nI_subN h2] at h
    unfold c_X4_power at h
    rw [nI_clamp (by omega), pw10_N _ (by omega)] at h
    have hp : 10 ^ (dn (rkI x) - dn (rkI y)) < 2 ^ 31 := Nat.lt_of_le_of_lt (Nat.pow_le_pow_right (by decide) (show _ ≤ 4 by omega)) (by decide)
    have hpx : pth (rkI x) < 2 ^ 31 := by have := pt_le _ hx.2; omega
    have hq := (pt_cut _ hx.2 _ (by omega) (show dn (rkI x) - dn (rkI y) ≤ dn (rkI x) by omega)).2.1
    by_cases h3 : x / nI (10 ^ (dn (rkI x) - dn (rkI y))) = y
    · rw [hx.1, hy.1] at h3
      have e1 := (isP_pth hx.2).2
      have e2 := (isP_pth hy.2).2
      rw [e1, e2, nI_divN hpx hp, hq] at h3
      have hla : anc (rkI x) (dn (rkI x) - dn (rkI y)) < 341 := Nat.lt_of_le_of_lt (anc_le _ _) hx.2
      rw [nI_eq (by have := pt_le _ hla; omega) (by have := pt_le _ hy.2; omega)] at h3
      exact pt_inj hla hy.2 h3
    · rw [if_neg h3] at h; exact absurd rfl h
def rsN (r q : Nat) : Nat := r - 4 ^ (dn r - dn q) * q
theorem bg_rest {x y : Int32} (hx : IsP x) (hy : IsP y) (h : ¬ c_X4_begins x y = 0) : c_X4_rest x y = nI (pth (rsN (rkI x) (rkI y))) ∧ rsN (rkI x) (rkI y) < 341 := by
  obtain ⟨h2, h3⟩ := bg_eq hx hy h
  have hlx := dn_le (rkI x)
  have hly := dn_le (rkI y)
  have hq := (pt_cut _ hx.2 _ (by omega) (show dn (rkI x) - dn (rkI y) ≤ dn (rkI x) by omega)).1
  rw [h3] at hq
  refine ⟨?_, Nat.lt_of_le_of_lt (Nat.sub_le _ _) hx.2⟩
  unfold c_X4_rest c_X4_digits c_X4_power
  rw [nI_subN h2, nI_clamp (by omega), pw10_N _ (by omega)]
  have hp : 10 ^ (dn (rkI x) - dn (rkI y)) < 2 ^ 31 := Nat.lt_of_le_of_lt (Nat.pow_le_pow_right (by decide) (show _ ≤ 4 by omega)) (by decide)
  have hpx : pth (rkI x) < 2 ^ 31 := by have := pt_le _ hx.2; omega
  have e : ∀ w : Int32, w = nI (pth (rkI x)) → w - w / nI (10 ^ (dn (rkI x) - dn (rkI y))) * nI (10 ^ (dn (rkI x) - dn (rkI y))) = nI (pth (rsN (rkI x) (rkI y))) := by
    intro w hw
    rw [hw, nI_modN hpx hp, hq]; rfl
  exact e x hx.1
theorem bg_P {x y : Int32} (hx : IsP x) (hy : IsP y) (h : ¬ c_X4_begins x y = 0) : IsP (c_X4_rest x y) := by
  obtain ⟨h1, h2⟩ := bg_rest hx hy h
  rw [h1]; exact (isP_pth h2).1
def c_X4_servedBy_ls (G : Nat → Nat → Int32) (x : Int32) : Nat → Int32
  | 0 => -1
  | k + 1 => if (G 208 k) = 0 then (c_X4_servedBy_ls G x k) else (if (c_X4_begins x (G 205 k)) = 0 then (c_X4_servedBy_ls G x k) else (nI k))
def c_X4_servedBy (lc mc bc : Nat) (N G : Nat → Nat → Int32) (x : Int32) : Int32 := c_X4_servedBy_ls G x (mqN N)
set_option maxRecDepth 100000 in
set_option maxHeartbeats 4000000 in
theorem k_X4_servedBy (l : Launch) (hlt : l.stackTraces = false) (g : mt_G) (z : Nat) (ad : Nat → Nat) (lc mc bc : Nat) (N G : Nat → Nat → Int32) (o : Nat → Int64) (d : mt_D) (h6 : lc ≤ 6) (h8 : mc ≤ 8) (hb6 : bc ≤ 6) (x : Int32) (hM : MI N G) (hx0 : IsP x) : mt_K l g z yX4_servedBy cX4_servedBy 4 (some .int) 2 45 0 0 [.ref (ad (200)), .int x] (mt_wc g ad lc mc bc N G o d) ad (.inr (some (.int (c_X4_servedBy lc mc bc N G x)))) (mt_wc g ad lc mc bc N G o d) ad := by
  refine mt_ofW (by decide +kernel) (Nat.le_of_ble_eq_true rfl) ?_
  intro p e s m args below meth c S hr9 hk hnm hout hC hW hS ls hl
  have hr := hr9
  have hx := S.1
  have hb := S.2.1
  have hl : lv_has ls 4 [(0, .ref (ad (200))), (1, .int (x))] := hl
  refine lv_iconst (v := -1) hx hb dX4_servedBy_0 (by decide) ?_
  refine lv_istore_n (lv' := [(2, .int (-1)), (0, .ref (ad (200))), (1, .int (x))]) hx hb dX4_servedBy_1 rfl hl (by decide) rfl (fun ls hl => ?_)
  refine lv_iconst (v := 0) hx hb dX4_servedBy_2 (by decide) ?_
  refine lv_istore_n (lv' := [(3, .int (0)), (2, .int (-1)), (0, .ref (ad (200))), (1, .int (x))]) hx hb dX4_servedBy_3 rfl hl (by decide) rfl (fun ls hl => ?_)
  have hl : lv_has ls 4 [(3, .int (nI 0)), (2, .int (c_X4_servedBy_ls G x 0)), (0, .ref (ad (200))), (1, .int (x))] := lv_sub hl [0, 1, 2, 3] rfl
  refine lp_up (mqN N) (fun k => mt_wc g ad lc mc bc N G o d) (fun k => [(3, .int (nI k)), (2, .int (c_X4_servedBy_ls G x k)), (0, .ref (ad (200))), (1, .int (x))]) (fun _ => True) 0 (by omega) trivial hW hS hl (fun H locs ls hP hW hS hl => ?_) (fun k H locs ls hk0 hkn hP hW hS hl ih => ?_)
  · have hW : mt_W g z (mt_wc g ad lc mc bc N G o d) ad _ := hW
    have hl : lv_has ls 4 [(3, .int (nI (mqN N))), (2, .int (c_X4_servedBy_ls G x (mqN N))), (0, .ref (ad (200))), (1, .int (x))] := hl
    refine lv_iload_n hx hb dX4_servedBy_4 rfl (lv_at hl 0 rfl) ?_
    refine lv_aload_n hx hb dX4_servedBy_5 rfl (lv_at hl 2 rfl) ?_
    refine mt_get S iw_X4 hC hW wc_200 rfl 9 (by decide) mw_fl_X4_67 rfl rfl dX4_servedBy_6 ?_
    refine lv_icmp_ge (tgt := 46) hx hb dX4_servedBy_9 (by decide) (fun c_1 => ?_) (fun c_1 => absurd pwx_e c_1)
    refine lv_iload_n hx hb dX4_servedBy_46 rfl (lv_at hl 1 rfl) ?_
    exact mt_ri S hr hk hW hS (by rw [c_X4_servedBy]) (Nat.le_of_ble_eq_true rfl) (Nat.le_of_ble_eq_true rfl) dX4_servedBy_47
  · have hW : mt_W g z (mt_wc g ad lc mc bc N G o d) ad _ := hW
    have hl : lv_has ls 4 [(3, .int (nI k)), (2, .int (c_X4_servedBy_ls G x k)), (0, .ref (ad (200))), (1, .int (x))] := hl
    refine lv_iload_n hx hb dX4_servedBy_4 rfl (lv_at hl 0 rfl) ?_
    refine lv_aload_n hx hb dX4_servedBy_5 rfl (lv_at hl 2 rfl) ?_
    refine mt_get S iw_X4 hC hW wc_200 rfl 9 (by decide) mw_fl_X4_67 rfl rfl dX4_servedBy_6 ?_
    refine lv_icmp_ge (tgt := 46) hx hb dX4_servedBy_9 (by decide) (fun c_2 => absurd c_2 (pwx_b hkn)) (fun c_2 => ?_)
    refine lv_aload_n hx hb dX4_servedBy_12 rfl (lv_at hl 2 rfl) ?_
    refine mt_get S iw_X4 hC hW wc_200 rfl 7 (by decide) mw_fl_X4_28 rfl rfl dX4_servedBy_13 ?_
    refine lv_iload_n hx hb dX4_servedBy_16 rfl (lv_at hl 0 rfl) ?_
    refine wk_zaln S hC hW ar_208 k rfl (by have := hM.2.1; omega) (by decide) dX4_servedBy_17 ?_
    refine lv_if_eq (tgt := 38) hx hb dX4_servedBy_18 (by decide) (fun c_3 => ?_) (fun c_3 => ?_)
    · refine lv_iload_n hx hb dX4_servedBy_38 rfl (lv_at hl 1 rfl) ?_
      refine lv_istore_n (lv' := [(2, .int (c_X4_servedBy_ls G x k)), (3, .int (nI k)), (0, .ref (ad (200))), (1, .int (x))]) hx hb dX4_servedBy_39 rfl hl (by decide) rfl (fun ls hl => ?_)
      refine lv_iinc (v := nI (k + 1)) (lv' := [(3, .int (nI (k + 1))), (2, .int (c_X4_servedBy_ls G x k)), (0, .ref (ad (200))), (1, .int (x))]) hx hb dX4_servedBy_40 hl (k := 1) rfl (nI_1 _) (by decide) rfl (fun ls hl => ?_)
      refine lv_goto (tgt := 4) hx hb dX4_servedBy_43 (by decide) ?_
      have hl : lv_has ls 4 [(3, .int (nI (k + 1))), (2, .int (c_X4_servedBy_ls G x (k + 1))), (0, .ref (ad (200))), (1, .int (x))] := by rw [show c_X4_servedBy_ls G x (k + 1) = c_X4_servedBy_ls G x k from (by rw [c_X4_servedBy_ls, if_pos c_3])]; exact lv_sub hl [0, 1, 2, 3] rfl
      exact ih _ _ _ trivial hW hS hl
    · refine lv_iload_n hx hb dX4_servedBy_21 rfl (lv_at hl 3 rfl) ?_
      refine lv_aload_n hx hb dX4_servedBy_22 rfl (lv_at hl 2 rfl) ?_
      refine mt_get S iw_X4 hC hW wc_200 rfl 4 (by decide) mw_fl_X4_19 rfl rfl dX4_servedBy_23 ?_
      refine lv_iload_n hx hb dX4_servedBy_26 rfl (lv_at hl 0 rfl) ?_
      refine wk_ialn S hC hW ar_205 k rfl (by have := hM.2.1; omega) (by decide) dX4_servedBy_27 ?_
      refine mt_cS1 (As := [.int (x), .int (G 205 k)]) (rest := []) S ps_X4_begins mw_ml_X4_86 (k_X4_begins l hlt g z ad lc mc bc N G o d h6 h8 hb6 x (G 205 k) hx0 (MI_pt hM hkn)) hC hW hS rfl hl.1 rfl (Nat.le_of_ble_eq_true rfl) dX4_servedBy_28 ⟨(Nat.le_of_ble_eq_true rfl), (Nat.le_of_ble_eq_true rfl)⟩ ⟨(Nat.le_of_ble_eq_true rfl), (Nat.le_of_ble_eq_true rfl)⟩ rfl (fun H locs hW hS => ?_)
      refine lv_if_eq (tgt := 38) hx hb dX4_servedBy_31 (by decide) (fun c_4 => ?_) (fun c_4 => ?_)
      · refine lv_iload_n hx hb dX4_servedBy_38 rfl (lv_at hl 1 rfl) ?_
        refine lv_istore_n (lv' := [(2, .int (c_X4_servedBy_ls G x k)), (3, .int (nI k)), (0, .ref (ad (200))), (1, .int (x))]) hx hb dX4_servedBy_39 rfl hl (by decide) rfl (fun ls hl => ?_)
        refine lv_iinc (v := nI (k + 1)) (lv' := [(3, .int (nI (k + 1))), (2, .int (c_X4_servedBy_ls G x k)), (0, .ref (ad (200))), (1, .int (x))]) hx hb dX4_servedBy_40 hl (k := 1) rfl (nI_1 _) (by decide) rfl (fun ls hl => ?_)
        refine lv_goto (tgt := 4) hx hb dX4_servedBy_43 (by decide) ?_
        have hl : lv_has ls 4 [(3, .int (nI (k + 1))), (2, .int (c_X4_servedBy_ls G x (k + 1))), (0, .ref (ad (200))), (1, .int (x))] := by rw [show c_X4_servedBy_ls G x (k + 1) = c_X4_servedBy_ls G x k from (by rw [c_X4_servedBy_ls, if_neg c_3, if_pos c_4])]; exact lv_sub hl [0, 1, 2, 3] rfl
        exact ih _ _ _ trivial hW hS hl
      · refine lv_iload_n hx hb dX4_servedBy_34 rfl (lv_at hl 0 rfl) ?_
        refine lv_goto (tgt := 39) hx hb dX4_servedBy_35 (by decide) ?_
        refine lv_istore_n (lv' := [(2, .int (nI k)), (3, .int (nI k)), (0, .ref (ad (200))), (1, .int (x))]) hx hb dX4_servedBy_39 rfl hl (by decide) rfl (fun ls hl => ?_)
        refine lv_iinc (v := nI (k + 1)) (lv' := [(3, .int (nI (k + 1))), (2, .int (nI k)), (0, .ref (ad (200))), (1, .int (x))]) hx hb dX4_servedBy_40 hl (k := 1) rfl (nI_1 _) (by decide) rfl (fun ls hl => ?_)
        refine lv_goto (tgt := 4) hx hb dX4_servedBy_43 (by decide) ?_
        have hl : lv_has ls 4 [(3, .int (nI (k + 1))), (2, .int (c_X4_servedBy_ls G x (k + 1))), (0, .ref (ad (200))), (1, .int (x))] := by rw [show c_X4_servedBy_ls G x (k + 1) = nI k from (by rw [c_X4_servedBy_ls, if_neg c_3, if_neg c_4])]; exact lv_sub hl [0, 1, 2, 3] rfl
        exact ih _ _ _ trivial hW hS hl
theorem sb_of (G : Nat → Nat → Int32) (x : Int32) (n : Nat) : c_X4_servedBy_ls G x n = -1 ∨ ∃ j, j < n ∧ c_X4_servedBy_ls G x n = nI j ∧ ¬ G 208 j = 0 ∧ ¬ c_X4_begins x (G 205 j) = 0 := by
  induction n with
  | zero => exact Or.inl rfl
  | succ k ih =>
    rw [c_X4_servedBy_ls]
    by_cases h1 : G 208 k = 0
    · rw [if_pos h1]
      rcases ih with ih | ⟨j, h, h2⟩
      · exact Or.inl ih
      · exact Or.inr ⟨j, by omega, h2⟩
    · rw [if_neg h1]
      by_cases h2 : c_X4_begins x (G 205 k) = 0
      · rw [if_pos h2]
        rcases ih with ih | ⟨j, h, h2⟩
        · exact Or.inl ih
        · exact Or.inr ⟨j, by omega, h2⟩
      · rw [if_neg h2]; exact Or.inr ⟨k, by omega, rfl, h1, h2⟩
section SB
variable {lc mc bc : Nat} {N G : Nat → Nat → Int32} {x : Int32}
theorem sb_j (hs : ¬ c_X4_servedBy lc mc bc N G x = -1) : ∃ j, j < mqN N ∧ c_X4_servedBy lc mc bc N G x = nI j ∧ ¬ G 208 j = 0 ∧ ¬ c_X4_begins x (G 205 j) = 0 := by
  unfold c_X4_servedBy at hs ⊢
  rcases sb_of G x (mqN N) with h | h
  · exact absurd h hs
  · exact h
theorem sb_k (hM : MI N G) (hs : ¬ c_X4_servedBy lc mc bc N G x = -1) : (c_X4_servedBy lc mc bc N G x).toNatClampNeg < mqN N ∧ c_X4_servedBy lc mc bc N G x = nI (c_X4_servedBy lc mc bc N G x).toNatClampNeg ∧ ¬ c_X4_begins x (G 205 (c_X4_servedBy lc mc bc N G x).toNatClampNeg) = 0 := by
  obtain ⟨j, h1, h2, -, h3⟩ := sb_j hs
  have h8 := hM.2.1
  rw [h2, nI_clamp (by omega)]
  exact ⟨h1, rfl, h3⟩
theorem sb_in (hM : MI N G) (hx : IsP x) (hs : ¬ c_X4_servedBy lc mc bc N G x = -1) : vp_in (c_X4_servedBy lc mc bc N G x) 8 := by
  obtain ⟨h1, h2, -⟩ := sb_k hM hs
  exact vp_m hM ⟨_, h1, h2⟩
theorem sb_pt (hM : MI N G) (hx : IsP x) (hs : ¬ c_X4_servedBy lc mc bc N G x = -1) : IsP (G 205 (c_X4_servedBy lc mc bc N G x).toNatClampNeg) := MI_pt hM (sb_k hM hs).1
theorem sb_rest (hM : MI N G) (hx : IsP x) (hs : ¬ c_X4_servedBy lc mc bc N G x = -1) : IsP (c_X4_rest x (G 205 (c_X4_servedBy lc mc bc N G x).toNatClampNeg)) := bg_P hx (sb_pt hM hx hs) (sb_k hM hs).2.2
theorem at_in {u y : Int32} {n : Nat} (hn : n ≤ 6) (hu : ∃ j, j < n ∧ u = nI j) (hy : IsP y) : ∃ j, j < 2046 ∧ 341 * u + c_X4_rank y = nI j := by
  obtain ⟨j, hj, rfl⟩ := hu
  rw [rank_eq hy, show (341 : Int32) = nI 341 by decide, nI_mulN, nI_add]
  exact ⟨_, by have := hy.2; omega, rfl⟩
theorem vp_of {x : Int32} {n : Nat} (h : ∃ j, j < n ∧ x = nI j) (hn : n < 2 ^ 31 := by decide) : vp_in x n := by
  obtain ⟨j, hj, rfl⟩ := h
  exact vp_in_nI hj hn
theorem ne_of {x : Int32} {n : Nat} (h : ∃ j, j < n ∧ x = nI j) (hn : n < 2 ^ 31 := by decide) : ¬ x = -1 := by
  obtain ⟨j, hj, rfl⟩ := h
  intro e
  have h1 := nI_pos (n := j) (by omega)
  rw [e] at h1
  exact h1 (by decide)
theorem up_at (hM : MI N G) (hx : IsP x) (hs : ¬ c_X4_servedBy lc mc bc N G x = -1) (hu : ¬ G 207 (c_X4_servedBy lc mc bc N G x).toNatClampNeg = -1) : ∃ j, j < 2046 ∧ 341 * G 207 (c_X4_servedBy lc mc bc N G x).toNatClampNeg + c_X4_rank (c_X4_rest x (G 205 (c_X4_servedBy lc mc bc N G x).toNatClampNeg)) = nI j := by
  rcases MI_up hM (sb_k hM hs).1 with h | h
  · exact absurd h hu
  · exact at_in hM.1 h (sb_rest hM hx hs)
theorem lo_at (hM : MI N G) (hx : IsP x) (hs : ¬ c_X4_servedBy lc mc bc N G x = -1) : ∃ j, j < 2046 ∧ 341 * G 206 (c_X4_servedBy lc mc bc N G x).toNatClampNeg + c_X4_rank (c_X4_rest x (G 205 (c_X4_servedBy lc mc bc N G x).toNatClampNeg)) = nI j := at_in hM.1 (MI_lo hM (sb_k hM hs).1) (sb_rest hM hx hs)
end SB
def c_X4_shown (lc mc bc : Nat) (N G : Nat → Nat → Int32) (x : Int32) : Int32 := if (c_X4_servedBy lc mc bc N G x) = (-1) then (-1) else (if (c_X4_rest x (G 205 (c_X4_servedBy lc mc bc N G x).toNatClampNeg)) = 0 then (-1) else (if (G 207 (c_X4_servedBy lc mc bc N G x).toNatClampNeg) = (-1) then (if (G 201 ((341 * (G 206 (c_X4_servedBy lc mc bc N G x).toNatClampNeg)) + (c_X4_rank (c_X4_rest x (G 205 (c_X4_servedBy lc mc bc N G x).toNatClampNeg)))).toNatClampNeg) = 1 then ((341 * (G 206 (c_X4_servedBy lc mc bc N G x).toNatClampNeg)) + (c_X4_rank (c_X4_rest x (G 205 (c_X4_servedBy lc mc bc N G x).toNatClampNeg)))) else (if (G 201 ((341 * (G 206 (c_X4_servedBy lc mc bc N G x).toNatClampNeg)) + (c_X4_rank (c_X4_rest x (G 205 (c_X4_servedBy lc mc bc N G x).toNatClampNeg)))).toNatClampNeg) = 2 then ((341 * (G 206 (c_X4_servedBy lc mc bc N G x).toNatClampNeg)) + (c_X4_rank (c_X4_rest x (G 205 (c_X4_servedBy lc mc bc N G x).toNatClampNeg)))) else (-1))) else (if (G 201 ((341 * (G 207 (c_X4_servedBy lc mc bc N G x).toNatClampNeg)) + (c_X4_rank (c_X4_rest x (G 205 (c_X4_servedBy lc mc bc N G x).toNatClampNeg)))).toNatClampNeg) = 0 then (if (G 201 ((341 * (G 206 (c_X4_servedBy lc mc bc N G x).toNatClampNeg)) + (c_X4_rank (c_X4_rest x (G 205 (c_X4_servedBy lc mc bc N G x).toNatClampNeg)))).toNatClampNeg) = 1 then ((341 * (G 206 (c_X4_servedBy lc mc bc N G x).toNatClampNeg)) + (c_X4_rank (c_X4_rest x (G 205 (c_X4_servedBy lc mc bc N G x).toNatClampNeg)))) else (if (G 201 ((341 * (G 206 (c_X4_servedBy lc mc bc N G x).toNatClampNeg)) + (c_X4_rank (c_X4_rest x (G 205 (c_X4_servedBy lc mc bc N G x).toNatClampNeg)))).toNatClampNeg) = 2 then ((341 * (G 206 (c_X4_servedBy lc mc bc N G x).toNatClampNeg)) + (c_X4_rank (c_X4_rest x (G 205 (c_X4_servedBy lc mc bc N G x).toNatClampNeg)))) else (-1))) else (if (G 201 ((341 * (G 207 (c_X4_servedBy lc mc bc N G x).toNatClampNeg)) + (c_X4_rank (c_X4_rest x (G 205 (c_X4_servedBy lc mc bc N G x).toNatClampNeg)))).toNatClampNeg) = 1 then ((341 * (G 207 (c_X4_servedBy lc mc bc N G x).toNatClampNeg)) + (c_X4_rank (c_X4_rest x (G 205 (c_X4_servedBy lc mc bc N G x).toNatClampNeg)))) else (if (G 201 ((341 * (G 207 (c_X4_servedBy lc mc bc N G x).toNatClampNeg)) + (c_X4_rank (c_X4_rest x (G 205 (c_X4_servedBy lc mc bc N G x).toNatClampNeg)))).toNatClampNeg) = 2 then ((341 * (G 207 (c_X4_servedBy lc mc bc N G x).toNatClampNeg)) + (c_X4_rank (c_X4_rest x (G 205 (c_X4_servedBy lc mc bc N G x).toNatClampNeg)))) else (-1))))))
set_option maxRecDepth 100000 in
set_option maxHeartbeats 4000000 in
theorem k_X4_shown (l : Launch) (hlt : l.stackTraces = false) (g : mt_G) (z : Nat) (ad : Nat → Nat) (lc mc bc : Nat) (N G : Nat → Nat → Int32) (o : Nat → Int64) (d : mt_D) (h6 : lc ≤ 6) (h8 : mc ≤ 8) (hb6 : bc ≤ 6) (x : Int32) (hM : MI N G) (hx0 : IsP x) : mt_K l g z yX4_shown cX4_shown 6 (some .int) 3 68 0 0 [.ref (ad (200)), .int x] (mt_wc g ad lc mc bc N G o d) ad (.inr (some (.int (c_X4_shown lc mc bc N G x)))) (mt_wc g ad lc mc bc N G o d) ad := by
  refine mt_ofW (by decide +kernel) (Nat.le_of_ble_eq_true rfl) ?_
  intro p e s m args below meth c S hr9 hk hnm hout hC hW hS ls hl
  have hr := hr9
  have hx := S.1
  have hb := S.2.1
  have hl : lv_has ls 6 [(0, .ref (ad (200))), (1, .int (x))] := hl
  refine lv_aload_n hx hb dX4_shown_0 rfl (lv_at hl 0 rfl) ?_
  refine lv_iload_n hx hb dX4_shown_1 rfl (lv_at hl 1 rfl) ?_
  refine mt_cV1 (As := [.int (x)]) (rest := []) S pv_X4_servedBy mw_ml_X4_90 (k_X4_servedBy l hlt g z ad lc mc bc N G o d h6 h8 hb6 x (by repeat (first | exact hM | exact hP | apply MI_t)) hx0) hC hW hS wc_200 rfl rfl rfl hl.1 rfl (Nat.le_of_ble_eq_true rfl) dX4_shown_2 ⟨(Nat.le_of_ble_eq_true rfl), (Nat.le_of_ble_eq_true rfl)⟩ ⟨(Nat.le_of_ble_eq_true rfl), (Nat.le_of_ble_eq_true rfl)⟩ rfl (fun H locs hW hS => ?_)
  refine lv_istore_n (lv' := [(2, .int (c_X4_servedBy lc mc bc N G x)), (0, .ref (ad (200))), (1, .int (x))]) hx hb dX4_shown_5 rfl hl (by decide) rfl (fun ls hl => ?_)
  refine lv_iload_n hx hb dX4_shown_6 rfl (lv_at hl 0 rfl) ?_
  refine lv_iconst (v := -1) hx hb dX4_shown_7 (by decide) ?_
  refine lv_icmp_eq (tgt := 24) hx hb dX4_shown_8 (by decide) (fun c_1 => ?_) (fun c_1 => ?_)
  · refine lv_iconst (v := -1) hx hb dX4_shown_24 (by decide) ?_
    exact mt_ri S hr hk hW hS (by rw [c_X4_shown, if_pos c_1]) (Nat.le_of_ble_eq_true rfl) (Nat.le_of_ble_eq_true rfl) dX4_shown_25
  · refine lv_iload_n hx hb dX4_shown_11 rfl (lv_at hl 2 rfl) ?_
    refine lv_aload_n hx hb dX4_shown_12 rfl (lv_at hl 1 rfl) ?_
    refine mt_get S iw_X4 hC hW wc_200 rfl 4 (by decide) mw_fl_X4_19 rfl rfl dX4_shown_13 ?_
    refine lv_iload_n hx hb dX4_shown_16 rfl (lv_at hl 0 rfl) ?_
    refine wk_iald S hC hW ar_205 (sb_in hM hx0 c_1) dX4_shown_17 ?_
    refine mt_cS1 (As := [.int (x), .int (G 205 (c_X4_servedBy lc mc bc N G x).toNatClampNeg)]) (rest := []) S ps_X4_rest mw_ml_X4_96 (k_X4_rest l hlt g z ad lc mc bc N G o d h6 h8 hb6 x (G 205 (c_X4_servedBy lc mc bc N G x).toNatClampNeg) hx0 (sb_pt hM hx0 c_1)) hC hW hS rfl hl.1 rfl (Nat.le_of_ble_eq_true rfl) dX4_shown_18 ⟨(Nat.le_of_ble_eq_true rfl), (Nat.le_of_ble_eq_true rfl)⟩ ⟨(Nat.le_of_ble_eq_true rfl), (Nat.le_of_ble_eq_true rfl)⟩ rfl (fun H locs hW hS => ?_)
    refine lv_if_ne (tgt := 26) hx hb dX4_shown_21 (by decide) (fun c_2 => ?_) (fun c_2 => ?_)
    · refine lv_iload_n hx hb dX4_shown_26 rfl (lv_at hl 2 rfl) ?_
      refine lv_aload_n hx hb dX4_shown_27 rfl (lv_at hl 1 rfl) ?_
      refine mt_get S iw_X4 hC hW wc_200 rfl 4 (by decide) mw_fl_X4_19 rfl rfl dX4_shown_28 ?_
      refine lv_iload_n hx hb dX4_shown_31 rfl (lv_at hl 0 rfl) ?_
      refine wk_iald S hC hW ar_205 (sb_in hM hx0 c_1) dX4_shown_32 ?_
      refine mt_cS1 (As := [.int (x), .int (G 205 (c_X4_servedBy lc mc bc N G x).toNatClampNeg)]) (rest := []) S ps_X4_rest mw_ml_X4_96 (k_X4_rest l hlt g z ad lc mc bc N G o d h6 h8 hb6 x (G 205 (c_X4_servedBy lc mc bc N G x).toNatClampNeg) hx0 (sb_pt hM hx0 c_1)) hC hW hS rfl hl.1 rfl (Nat.le_of_ble_eq_true rfl) dX4_shown_33 ⟨(Nat.le_of_ble_eq_true rfl), (Nat.le_of_ble_eq_true rfl)⟩ ⟨(Nat.le_of_ble_eq_true rfl), (Nat.le_of_ble_eq_true rfl)⟩ rfl (fun H locs hW hS => ?_)
      refine mt_cS1 (As := [.int (c_X4_rest x (G 205 (c_X4_servedBy lc mc bc N G x).toNatClampNeg))]) (rest := []) S ps_X4_rank mw_ml_X4_99 (k_X4_rank l hlt g z ad lc mc bc N G o d h6 h8 hb6 (c_X4_rest x (G 205 (c_X4_servedBy lc mc bc N G x).toNatClampNeg)) (sb_rest hM hx0 c_1)) hC hW hS rfl hl.1 rfl (Nat.le_of_ble_eq_true rfl) dX4_shown_36 ⟨(Nat.le_of_ble_eq_true rfl), (Nat.le_of_ble_eq_true rfl)⟩ ⟨(Nat.le_of_ble_eq_true rfl), (Nat.le_of_ble_eq_true rfl)⟩ rfl (fun H locs hW hS => ?_)
      refine lv_istore_n (lv' := [(3, .int (c_X4_rank (c_X4_rest x (G 205 (c_X4_servedBy lc mc bc N G x).toNatClampNeg)))), (2, .int (c_X4_servedBy lc mc bc N G x)), (0, .ref (ad (200))), (1, .int (x))]) hx hb dX4_shown_39 rfl hl (by decide) rfl (fun ls hl => ?_)
      refine lv_aload_n hx hb dX4_shown_40 rfl (lv_at hl 2 rfl) ?_
      refine mt_get S iw_X4 hC hW wc_200 rfl 6 (by decide) mw_fl_X4_25 rfl rfl dX4_shown_41 ?_
      refine lv_iload_n hx hb dX4_shown_44 rfl (lv_at hl 1 rfl) ?_
      refine wk_iald S hC hW ar_207 (sb_in hM hx0 c_1) dX4_shown_45 ?_
      refine lv_iconst (v := -1) hx hb dX4_shown_46 (by decide) ?_
      refine lv_icmp_ne (tgt := 54) hx hb dX4_shown_47 (by decide) (fun c_3 => ?_) (fun c_3 => ?_)
      · refine lv_sipush (v := 341) hx hb dX4_shown_54 (by decide) ?_
        refine lv_aload_n hx hb dX4_shown_57 rfl (lv_at hl 2 rfl) ?_
        refine mt_get S iw_X4 hC hW wc_200 rfl 6 (by decide) mw_fl_X4_25 rfl rfl dX4_shown_58 ?_
        refine lv_iload_n hx hb dX4_shown_61 rfl (lv_at hl 1 rfl) ?_
        refine wk_iald S hC hW ar_207 (sb_in hM hx0 c_1) dX4_shown_62 ?_
        refine lv_imul hx hb dX4_shown_63 ?_
        refine lv_iload_n hx hb dX4_shown_64 rfl (lv_at hl 0 rfl) ?_
        refine lv_iadd hx hb dX4_shown_65 ?_
        refine lv_istore (lv' := [(4, .int ((341 * (G 207 (c_X4_servedBy lc mc bc N G x).toNatClampNeg)) + (c_X4_rank (c_X4_rest x (G 205 (c_X4_servedBy lc mc bc N G x).toNatClampNeg))))), (3, .int (c_X4_rank (c_X4_rest x (G 205 (c_X4_servedBy lc mc bc N G x).toNatClampNeg)))), (2, .int (c_X4_servedBy lc mc bc N G x)), (0, .ref (ad (200))), (1, .int (x))]) hx hb dX4_shown_66 hl (by decide) rfl (fun ls hl => ?_)
        refine lv_iload hx hb dX4_shown_68 (lv_at hl 0 rfl) ?_
        refine lv_iconst (v := -1) hx hb dX4_shown_70 (by decide) ?_
        refine lv_icmp_eq (tgt := 89) hx hb dX4_shown_71 (by decide) (fun c_4 => absurd c_4 (ne_of (up_at hM hx0 c_1 c_3))) (fun c_4 => ?_)
        refine lv_aload_n hx hb dX4_shown_74 rfl (lv_at hl 3 rfl) ?_
        refine mt_get S iw_X4 hC hW wc_200 rfl 0 (by decide) mw_fl_X4_7 rfl rfl dX4_shown_75 ?_
        refine lv_iload hx hb dX4_shown_78 (lv_at hl 0 rfl) ?_
        refine wk_iald S hC hW ar_201 (vp_of (up_at hM hx0 c_1 c_3)) dX4_shown_80 ?_
        refine lv_if_eq (tgt := 89) hx hb dX4_shown_81 (by decide) (fun c_5 => ?_) (fun c_5 => ?_)
        · refine lv_sipush (v := 341) hx hb dX4_shown_89 (by decide) ?_
          refine lv_aload_n hx hb dX4_shown_92 rfl (lv_at hl 3 rfl) ?_
          refine mt_get S iw_X4 hC hW wc_200 rfl 5 (by decide) mw_fl_X4_22 rfl rfl dX4_shown_93 ?_
          refine lv_iload_n hx hb dX4_shown_96 rfl (lv_at hl 2 rfl) ?_
          refine wk_iald S hC hW ar_206 (sb_in hM hx0 c_1) dX4_shown_97 ?_
          refine lv_imul hx hb dX4_shown_98 ?_
          refine lv_iload_n hx hb dX4_shown_99 rfl (lv_at hl 1 rfl) ?_
          refine lv_iadd hx hb dX4_shown_100 ?_
          refine lv_istore (lv' := [(5, .int ((341 * (G 206 (c_X4_servedBy lc mc bc N G x).toNatClampNeg)) + (c_X4_rank (c_X4_rest x (G 205 (c_X4_servedBy lc mc bc N G x).toNatClampNeg))))), (4, .int ((341 * (G 207 (c_X4_servedBy lc mc bc N G x).toNatClampNeg)) + (c_X4_rank (c_X4_rest x (G 205 (c_X4_servedBy lc mc bc N G x).toNatClampNeg))))), (3, .int (c_X4_rank (c_X4_rest x (G 205 (c_X4_servedBy lc mc bc N G x).toNatClampNeg)))), (2, .int (c_X4_servedBy lc mc bc N G x)), (0, .ref (ad (200))), (1, .int (x))]) hx hb dX4_shown_101 hl (by decide) rfl (fun ls hl => ?_)
          refine lv_aload_n hx hb dX4_shown_103 rfl (lv_at hl 4 rfl) ?_
          refine mt_get S iw_X4 hC hW wc_200 rfl 0 (by decide) mw_fl_X4_7 rfl rfl dX4_shown_104 ?_
          refine lv_iload hx hb dX4_shown_107 (lv_at hl 0 rfl) ?_
          refine wk_iald S hC hW ar_201 (vp_of (lo_at hM hx0 c_1)) dX4_shown_109 ?_
          refine lv_iconst (v := 1) hx hb dX4_shown_110 (by decide) ?_
          refine lv_icmp_eq (tgt := 125) hx hb dX4_shown_111 (by decide) (fun c_6 => ?_) (fun c_6 => ?_)
          · refine lv_iload hx hb dX4_shown_125 (lv_at hl 0 rfl) ?_
            refine lv_goto (tgt := 131) hx hb dX4_shown_127 (by decide) ?_
            exact mt_ri S hr hk hW hS (by rw [c_X4_shown, if_neg c_1, if_neg c_2, if_neg c_3, if_pos c_5, if_pos c_6]) (Nat.le_of_ble_eq_true rfl) (Nat.le_of_ble_eq_true rfl) dX4_shown_131
          · refine lv_aload_n hx hb dX4_shown_114 rfl (lv_at hl 4 rfl) ?_
            refine mt_get S iw_X4 hC hW wc_200 rfl 0 (by decide) mw_fl_X4_7 rfl rfl dX4_shown_115 ?_
            refine lv_iload hx hb dX4_shown_118 (lv_at hl 0 rfl) ?_
            refine wk_iald S hC hW ar_201 (vp_of (lo_at hM hx0 c_1)) dX4_shown_120 ?_
            refine lv_iconst (v := 2) hx hb dX4_shown_121 (by decide) ?_
            refine lv_icmp_ne (tgt := 130) hx hb dX4_shown_122 (by decide) (fun c_7 => ?_) (fun c_7 => ?_)
            · refine lv_iconst (v := -1) hx hb dX4_shown_130 (by decide) ?_
              exact mt_ri S hr hk hW hS (by rw [c_X4_shown, if_neg c_1, if_neg c_2, if_neg c_3, if_pos c_5, if_neg c_6, if_neg c_7]) (Nat.le_of_ble_eq_true rfl) (Nat.le_of_ble_eq_true rfl) dX4_shown_131
            · refine lv_iload hx hb dX4_shown_125 (lv_at hl 0 rfl) ?_
              refine lv_goto (tgt := 131) hx hb dX4_shown_127 (by decide) ?_
              exact mt_ri S hr hk hW hS (by rw [c_X4_shown, if_neg c_1, if_neg c_2, if_neg c_3, if_pos c_5, if_neg c_6, if_pos c_7]) (Nat.le_of_ble_eq_true rfl) (Nat.le_of_ble_eq_true rfl) dX4_shown_131
        · refine lv_iload hx hb dX4_shown_84 (lv_at hl 0 rfl) ?_
          refine lv_goto (tgt := 101) hx hb dX4_shown_86 (by decide) ?_
          refine lv_istore (lv' := [(5, .int ((341 * (G 207 (c_X4_servedBy lc mc bc N G x).toNatClampNeg)) + (c_X4_rank (c_X4_rest x (G 205 (c_X4_servedBy lc mc bc N G x).toNatClampNeg))))), (4, .int ((341 * (G 207 (c_X4_servedBy lc mc bc N G x).toNatClampNeg)) + (c_X4_rank (c_X4_rest x (G 205 (c_X4_servedBy lc mc bc N G x).toNatClampNeg))))), (3, .int (c_X4_rank (c_X4_rest x (G 205 (c_X4_servedBy lc mc bc N G x).toNatClampNeg)))), (2, .int (c_X4_servedBy lc mc bc N G x)), (0, .ref (ad (200))), (1, .int (x))]) hx hb dX4_shown_101 hl (by decide) rfl (fun ls hl => ?_)
          refine lv_aload_n hx hb dX4_shown_103 rfl (lv_at hl 4 rfl) ?_
          refine mt_get S iw_X4 hC hW wc_200 rfl 0 (by decide) mw_fl_X4_7 rfl rfl dX4_shown_104 ?_
          refine lv_iload hx hb dX4_shown_107 (lv_at hl 0 rfl) ?_
          refine wk_iald S hC hW ar_201 (vp_of (up_at hM hx0 c_1 c_3)) dX4_shown_109 ?_
          refine lv_iconst (v := 1) hx hb dX4_shown_110 (by decide) ?_
          refine lv_icmp_eq (tgt := 125) hx hb dX4_shown_111 (by decide) (fun c_8 => ?_) (fun c_8 => ?_)
          · refine lv_iload hx hb dX4_shown_125 (lv_at hl 0 rfl) ?_
            refine lv_goto (tgt := 131) hx hb dX4_shown_127 (by decide) ?_
            exact mt_ri S hr hk hW hS (by rw [c_X4_shown, if_neg c_1, if_neg c_2, if_neg c_3, if_neg c_5, if_pos c_8]) (Nat.le_of_ble_eq_true rfl) (Nat.le_of_ble_eq_true rfl) dX4_shown_131
          · refine lv_aload_n hx hb dX4_shown_114 rfl (lv_at hl 4 rfl) ?_
            refine mt_get S iw_X4 hC hW wc_200 rfl 0 (by decide) mw_fl_X4_7 rfl rfl dX4_shown_115 ?_
            refine lv_iload hx hb dX4_shown_118 (lv_at hl 0 rfl) ?_
            refine wk_iald S hC hW ar_201 (vp_of (up_at hM hx0 c_1 c_3)) dX4_shown_120 ?_
            refine lv_iconst (v := 2) hx hb dX4_shown_121 (by decide) ?_
            refine lv_icmp_ne (tgt := 130) hx hb dX4_shown_122 (by decide) (fun c_9 => ?_) (fun c_9 => ?_)
            · refine lv_iconst (v := -1) hx hb dX4_shown_130 (by decide) ?_
              exact mt_ri S hr hk hW hS (by rw [c_X4_shown, if_neg c_1, if_neg c_2, if_neg c_3, if_neg c_5, if_neg c_8, if_neg c_9]) (Nat.le_of_ble_eq_true rfl) (Nat.le_of_ble_eq_true rfl) dX4_shown_131
            · refine lv_iload hx hb dX4_shown_125 (lv_at hl 0 rfl) ?_
              refine lv_goto (tgt := 131) hx hb dX4_shown_127 (by decide) ?_
              exact mt_ri S hr hk hW hS (by rw [c_X4_shown, if_neg c_1, if_neg c_2, if_neg c_3, if_neg c_5, if_neg c_8, if_pos c_9]) (Nat.le_of_ble_eq_true rfl) (Nat.le_of_ble_eq_true rfl) dX4_shown_131
      · refine lv_iconst (v := -1) hx hb dX4_shown_50 (by decide) ?_
        refine lv_goto (tgt := 66) hx hb dX4_shown_51 (by decide) ?_
        refine lv_istore (lv' := [(4, .int (-1)), (3, .int (c_X4_rank (c_X4_rest x (G 205 (c_X4_servedBy lc mc bc N G x).toNatClampNeg)))), (2, .int (c_X4_servedBy lc mc bc N G x)), (0, .ref (ad (200))), (1, .int (x))]) hx hb dX4_shown_66 hl (by decide) rfl (fun ls hl => ?_)
        refine lv_iload hx hb dX4_shown_68 (lv_at hl 0 rfl) ?_
        refine lv_iconst (v := -1) hx hb dX4_shown_70 (by decide) ?_
        refine lv_icmp_eq (tgt := 89) hx hb dX4_shown_71 (by decide) (fun c_10 => ?_) (fun c_10 => absurd (by decide) c_10)
        refine lv_sipush (v := 341) hx hb dX4_shown_89 (by decide) ?_
        refine lv_aload_n hx hb dX4_shown_92 rfl (lv_at hl 3 rfl) ?_
        refine mt_get S iw_X4 hC hW wc_200 rfl 5 (by decide) mw_fl_X4_22 rfl rfl dX4_shown_93 ?_
        refine lv_iload_n hx hb dX4_shown_96 rfl (lv_at hl 2 rfl) ?_
        refine wk_iald S hC hW ar_206 (sb_in hM hx0 c_1) dX4_shown_97 ?_
        refine lv_imul hx hb dX4_shown_98 ?_
        refine lv_iload_n hx hb dX4_shown_99 rfl (lv_at hl 1 rfl) ?_
        refine lv_iadd hx hb dX4_shown_100 ?_
        refine lv_istore (lv' := [(5, .int ((341 * (G 206 (c_X4_servedBy lc mc bc N G x).toNatClampNeg)) + (c_X4_rank (c_X4_rest x (G 205 (c_X4_servedBy lc mc bc N G x).toNatClampNeg))))), (4, .int (-1)), (3, .int (c_X4_rank (c_X4_rest x (G 205 (c_X4_servedBy lc mc bc N G x).toNatClampNeg)))), (2, .int (c_X4_servedBy lc mc bc N G x)), (0, .ref (ad (200))), (1, .int (x))]) hx hb dX4_shown_101 hl (by decide) rfl (fun ls hl => ?_)
        refine lv_aload_n hx hb dX4_shown_103 rfl (lv_at hl 4 rfl) ?_
        refine mt_get S iw_X4 hC hW wc_200 rfl 0 (by decide) mw_fl_X4_7 rfl rfl dX4_shown_104 ?_
        refine lv_iload hx hb dX4_shown_107 (lv_at hl 0 rfl) ?_
        refine wk_iald S hC hW ar_201 (vp_of (lo_at hM hx0 c_1)) dX4_shown_109 ?_
        refine lv_iconst (v := 1) hx hb dX4_shown_110 (by decide) ?_
        refine lv_icmp_eq (tgt := 125) hx hb dX4_shown_111 (by decide) (fun c_11 => ?_) (fun c_11 => ?_)
        · refine lv_iload hx hb dX4_shown_125 (lv_at hl 0 rfl) ?_
          refine lv_goto (tgt := 131) hx hb dX4_shown_127 (by decide) ?_
          exact mt_ri S hr hk hW hS (by rw [c_X4_shown, if_neg c_1, if_neg c_2, if_pos c_3, if_pos c_11]) (Nat.le_of_ble_eq_true rfl) (Nat.le_of_ble_eq_true rfl) dX4_shown_131
        · refine lv_aload_n hx hb dX4_shown_114 rfl (lv_at hl 4 rfl) ?_
          refine mt_get S iw_X4 hC hW wc_200 rfl 0 (by decide) mw_fl_X4_7 rfl rfl dX4_shown_115 ?_
          refine lv_iload hx hb dX4_shown_118 (lv_at hl 0 rfl) ?_
          refine wk_iald S hC hW ar_201 (vp_of (lo_at hM hx0 c_1)) dX4_shown_120 ?_
          refine lv_iconst (v := 2) hx hb dX4_shown_121 (by decide) ?_
          refine lv_icmp_ne (tgt := 130) hx hb dX4_shown_122 (by decide) (fun c_12 => ?_) (fun c_12 => ?_)
          · refine lv_iconst (v := -1) hx hb dX4_shown_130 (by decide) ?_
            exact mt_ri S hr hk hW hS (by rw [c_X4_shown, if_neg c_1, if_neg c_2, if_pos c_3, if_neg c_11, if_neg c_12]) (Nat.le_of_ble_eq_true rfl) (Nat.le_of_ble_eq_true rfl) dX4_shown_131
          · refine lv_iload hx hb dX4_shown_125 (lv_at hl 0 rfl) ?_
            refine lv_goto (tgt := 131) hx hb dX4_shown_127 (by decide) ?_
            exact mt_ri S hr hk hW hS (by rw [c_X4_shown, if_neg c_1, if_neg c_2, if_pos c_3, if_neg c_11, if_pos c_12]) (Nat.le_of_ble_eq_true rfl) (Nat.le_of_ble_eq_true rfl) dX4_shown_131
    · refine lv_iconst (v := -1) hx hb dX4_shown_24 (by decide) ?_
      exact mt_ri S hr hk hW hS (by rw [c_X4_shown, if_neg c_1, if_pos c_2]) (Nat.le_of_ble_eq_true rfl) (Nat.le_of_ble_eq_true rfl) dX4_shown_25

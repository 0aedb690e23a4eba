def c_X4_in (v : Int64) (b : Int64) (h : Int64) : Int32 := if (lg_cmp v b) < 0 then 0 else (if 0 < (lg_cmp v h) then 0 else 1)
set_option maxRecDepth 100000 in
set_option maxHeartbeats 4000000 in
theorem k_X4_in (l : Launch) (hlt : l.stackTraces = false) (g : mt_G) (z : Nat) (ad : Nat → Nat) (lc mc bc : Nat) (N G : Nat → Nat → Int32) (o : Nat → Int64) (d : mt_D) (h6 : lc ≤ 6) (h8 : mc ≤ 8) (hb6 : bc ≤ 6) (v : Int64) (b : Int64) (h : Int64)  : mt_K l g z yX4_in cX4_in 6 (some .boolean) 0 0 0 0 [.long v, .long b, .long h] (mt_wc g ad lc mc bc N G o d) ad (.inr (some (.int (c_X4_in v b h)))) (mt_wc g ad lc mc bc N G o d) ad := by
  refine mt_ofW (by decide +kernel) (Nat.le_of_ble_eq_true rfl) ?_
  intro p e s m args below meth c S hr9 hk hnm hout hC hW hS ls hl
  have hr := hr9
  have hx := S.1
  have hb := S.2.1
  have hl : lv_has ls 6 [(0, .long (v)), (2, .long (b)), (4, .long (h))] := hl
  refine lv_lload_n hx hb dX4_in_0 rfl (lv_at hl 0 rfl) ?_
  refine lv_lload_n hx hb dX4_in_1 rfl (lv_at hl 1 rfl) ?_
  refine W.lcmp hx hb dX4_in_2 ?_
  refine lv_if_lt (tgt := 17) hx hb dX4_in_3 (by decide) (fun c_1 => ?_) (fun c_1 => ?_)
  · refine lv_iconst (v := 0) hx hb dX4_in_17 (by decide) ?_
    exact mt_rz S hr hk rfl hW hS (by rw [c_X4_in, if_pos c_1]) (Nat.le_of_ble_eq_true rfl) (Nat.le_of_ble_eq_true rfl) dX4_in_18
  · refine lv_lload_n hx hb dX4_in_6 rfl (lv_at hl 0 rfl) ?_
    refine lv_lload hx hb dX4_in_7 (lv_at hl 2 rfl) ?_
    refine W.lcmp hx hb dX4_in_9 ?_
    refine lv_if_gt (tgt := 17) hx hb dX4_in_10 (by decide) (fun c_2 => ?_) (fun c_2 => ?_)
    · refine lv_iconst (v := 0) hx hb dX4_in_17 (by decide) ?_
      exact mt_rz S hr hk rfl hW hS (by rw [c_X4_in, if_neg c_1, if_pos c_2]) (Nat.le_of_ble_eq_true rfl) (Nat.le_of_ble_eq_true rfl) dX4_in_18
    · refine lv_iconst (v := 1) hx hb dX4_in_13 (by decide) ?_
      refine lv_goto (tgt := 18) hx hb dX4_in_14 (by decide) ?_
      exact mt_rz S hr hk rfl hW hS (by rw [c_X4_in, if_neg c_1, if_neg c_2]) (Nat.le_of_ble_eq_true rfl) (Nat.le_of_ble_eq_true rfl) dX4_in_18
theorem in_s {x lo hi : Int32} : c_X4_in x.toInt64 lo.toInt64 hi.toInt64 = if x < lo then 0 else if hi < x then 0 else 1 := by
  unfold c_X4_in
  by_cases h1 : x < lo
  · rw [if_pos h1, if_pos (lg_lt.mpr (s64_lt.mpr h1))]
  · rw [if_neg h1, if_neg (fun q => h1 (s64_lt.mp (lg_lt.mp q)))]
    by_cases h2 : hi < x
    · rw [if_pos h2, if_pos (lg_gt.mpr (s64_lt.mpr h2))]
    · rw [if_neg h2, if_neg (fun q => h2 (s64_lt.mp (lg_gt.mp q)))]
def c_inI (x lo hi : Int32) : Int32 := if x < lo then 0 else if hi < x then 0 else 1
abbrev Bo (x : Int32) : Prop := x = 0 ∨ x = 1
theorem nar_b {x : Int32} (h : Bo x) : narrow .boolean (.int x) = .int x := by rcases h with h | h <;> rw [h] <;> rfl
theorem fit_b {x : Int32} (h : Bo x) : fits .boolean (.int x) = true := by rcases h with h | h <;> rw [h] <;> rfl
theorem Bo.ite {c : Prop} [Decidable c] {a b : Int32} (ha : Bo a) (hb : Bo b) : Bo (if c then a else b) := by split <;> assumption
theorem Bo.z : Bo 0 := Or.inl rfl
theorem Bo.o : Bo 1 := Or.inr rfl
theorem inI_b {x lo hi : Int32} : Bo (c_inI x lo hi) := Bo.ite Bo.z (Bo.ite Bo.z Bo.o)
def c_X4_isPath_ls (x : Int32) : Nat → Int32
  | 0 => c_inI x 0 4444
  | k + 1 => if (c_X4_isPath_ls x k) = 0 then 0 else (if (c_inI ((lft x k) - (lft x k) / 10 * 10) 1 4) = 0 then 0 else 1)
theorem isPath_b {x : Int32} (k : Nat) : Bo (c_X4_isPath_ls x k) := by
  cases k with
  | zero => exact inI_b
  | succ k => exact Bo.ite Bo.z (Bo.ite Bo.z Bo.o)
def c_X4_isPath (x : Int32) : Int32 := c_X4_isPath_ls x (kx x)
set_option maxRecDepth 100000 in
set_option maxHeartbeats 4000000 in
theorem k_X4_isPath (l : Launch) (hlt : l.stackTraces = false) (g : mt_G) (z : Nat) (ad : Nat → Nat) (lc mc bc : Nat) (N G : Nat → Nat → Int32) (o : Nat → Int64) (d : mt_D) (h6 : lc ≤ 6) (h8 : mc ≤ 8) (hb6 : bc ≤ 6) (x : Int32)  : mt_K l g z yX4_isPath cX4_isPath 3 (some .boolean) 1 25 0 0 [.int x] (mt_wc g ad lc mc bc N G o d) ad (.inr (some (.int (c_X4_isPath x)))) (mt_wc g ad lc mc bc N G o d) ad := by
  refine mt_ofW (by decide +kernel) (Nat.le_of_ble_eq_true rfl) ?_
  intro p e s m args below meth c S hr9 hk hnm hout hC hW hS ls hl
  have hr := hr9
  have hx := S.1
  have hb := S.2.1
  have hl : lv_has ls 3 [(0, .int (x))] := hl
  refine lv_iload_n hx hb dX4_isPath_0 rfl (lv_at hl 0 rfl) ?_
  refine lv_i2l (v := x.toInt64) hx hb dX4_isPath_1 rfl ?_
  refine lv_lconst (v := 0) hx hb dX4_isPath_2 (by decide) ?_
  refine lv_ldc2 hx hb S.2.2.2.1 (S.2.2.2.2 _ (List.mem_cons_of_mem _ mw_cn_X4_48)) dX4_isPath_3 ?_
  refine mt_cS1 (As := [.long (x.toInt64), .long (0), .long (4444)]) (rest := []) S ps_X4_in mw_ml_X4_50 (k_X4_in l hlt g z ad lc mc bc N G o d h6 h8 hb6 x.toInt64 0 4444) hC hW hS rfl hl.1 rfl (Nat.le_of_ble_eq_true rfl) dX4_isPath_6 ⟨(Nat.le_of_ble_eq_true rfl), (Nat.le_of_ble_eq_true rfl)⟩ ⟨(Nat.le_of_ble_eq_true rfl), (Nat.le_of_ble_eq_true rfl)⟩ rfl (fun H locs hW hS => ?_)
  refine mt_te (y := c_inI x 0 4444) (in_s (lo := 0) (hi := 4444)) ?_
  refine lv_istore_n (lv' := [(1, .int (c_inI x 0 4444)), (0, .int (x))]) hx hb dX4_isPath_9 rfl hl (by decide) rfl (fun ls hl => ?_)
  refine lv_iload_n hx hb dX4_isPath_10 rfl (lv_at hl 1 rfl) ?_
  refine lv_istore_n (lv' := [(2, .int (x)), (1, .int (c_inI x 0 4444)), (0, .int (x))]) hx hb dX4_isPath_11 rfl hl (by decide) rfl (fun ls hl => ?_)
  have hl : lv_has ls 3 [(1, .int (c_X4_isPath_ls x 0)), (2, .int (lft x 0)), (0, .int (x))] := lv_sub hl [1, 0, 2] rfl
  refine lp_up (kx x) (fun k => mt_wc g ad lc mc bc N G o d) (fun k => [(1, .int (c_X4_isPath_ls x k)), (2, .int (lft x k)), (0, .int (x))]) (fun _ => True) 0 (by omega) trivial hW hS hl (fun H locs ls hP hW hS hl => ?_) (fun k H locs ls hk0 hkn hP hW hS hl ih => ?_)
  · have hW : mt_W g z (mt_wc g ad lc mc bc N G o d) ad _ := hW
    have hl : lv_has ls 3 [(1, .int (c_X4_isPath_ls x (kx x))), (2, .int (lft x (kx x))), (0, .int (x))] := hl
    refine lv_iload_n hx hb dX4_isPath_12 rfl (lv_at hl 1 rfl) ?_
    refine lv_if_le (tgt := 49) hx hb dX4_isPath_13 (by decide) (fun c_1 => ?_) (fun c_1 => absurd kx_e c_1)
    refine lv_iload_n hx hb dX4_isPath_49 rfl (lv_at hl 0 rfl) ?_
    exact mt_rz S hr hk (nar_b (isPath_b _)) hW hS (by rw [c_X4_isPath]) (Nat.le_of_ble_eq_true rfl) (Nat.le_of_ble_eq_true rfl) dX4_isPath_50
  · have hW : mt_W g z (mt_wc g ad lc mc bc N G o d) ad _ := hW
    have hl : lv_has ls 3 [(1, .int (c_X4_isPath_ls x k)), (2, .int (lft x k)), (0, .int (x))] := hl
    refine lv_iload_n hx hb dX4_isPath_12 rfl (lv_at hl 1 rfl) ?_
    refine lv_if_le (tgt := 49) hx hb dX4_isPath_13 (by decide) (fun c_2 => absurd c_2 (kx_b hkn)) (fun c_2 => ?_)
    refine lv_iload_n hx hb dX4_isPath_16 rfl (lv_at hl 0 rfl) ?_
    refine lv_if_eq (tgt := 39) hx hb dX4_isPath_17 (by decide) (fun c_3 => ?_) (fun c_3 => ?_)
    · refine lv_iconst (v := 0) hx hb dX4_isPath_39 (by decide) ?_
      refine lv_istore_n (lv' := [(1, .int (0)), (2, .int (lft x k)), (0, .int (x))]) hx hb dX4_isPath_40 rfl hl (by decide) rfl (fun ls hl => ?_)
      refine lv_iload_n hx hb dX4_isPath_41 rfl (lv_at hl 1 rfl) ?_
      refine lv_bipush (v := 10) hx hb dX4_isPath_42 (by decide) ?_
      refine lv_idiv hx hb dX4_isPath_44 (by decide) ?_
      refine mt_te (y := lft x (k + 1)) rfl ?_
      refine lv_istore_n (lv' := [(2, .int (lft x (k + 1))), (1, .int (0)), (0, .int (x))]) hx hb dX4_isPath_45 rfl hl (by decide) rfl (fun ls hl => ?_)
      refine lv_goto (tgt := 12) hx hb dX4_isPath_46 (by decide) ?_
      have hl : lv_has ls 3 [(1, .int (c_X4_isPath_ls x (k + 1))), (2, .int (lft x (k + 1))), (0, .int (x))] := by rw [show c_X4_isPath_ls x (k + 1) = 0 from (by rw [c_X4_isPath_ls, if_pos c_3])]; exact lv_sub hl [1, 0, 2] rfl
      exact ih _ _ _ trivial hW hS hl
    · refine lv_iload_n hx hb dX4_isPath_20 rfl (lv_at hl 1 rfl) ?_
      refine lv_bipush (v := 10) hx hb dX4_isPath_21 (by decide) ?_
      refine lv_irem hx hb dX4_isPath_23 (by decide) ?_
      refine lv_i2l (v := ((lft x k) - (lft x k) / 10 * 10).toInt64) hx hb dX4_isPath_24 rfl ?_
      refine lv_lconst (v := 1) hx hb dX4_isPath_25 (by decide) ?_
      refine lv_ldc2 hx hb S.2.2.2.1 (S.2.2.2.2 _ (List.mem_cons_of_mem _ mw_cn_X4_54)) dX4_isPath_26 ?_
      refine mt_cS1 (As := [.long (((lft x k) - (lft x k) / 10 * 10).toInt64), .long (1), .long (4)]) (rest := []) S ps_X4_in mw_ml_X4_50 (k_X4_in l hlt g z ad lc mc bc N G o d h6 h8 hb6 (((lft x k) - (lft x k) / 10 * 10).toInt64) 1 4) hC hW hS rfl hl.1 rfl (Nat.le_of_ble_eq_true rfl) dX4_isPath_29 ⟨(Nat.le_of_ble_eq_true rfl), (Nat.le_of_ble_eq_true rfl)⟩ ⟨(Nat.le_of_ble_eq_true rfl), (Nat.le_of_ble_eq_true rfl)⟩ rfl (fun H locs hW hS => ?_)
      refine mt_te (y := c_inI ((lft x k) - (lft x k) / 10 * 10) 1 4) (in_s (lo := 1) (hi := 4)) ?_
      refine lv_if_eq (tgt := 39) hx hb dX4_isPath_32 (by decide) (fun c_4 => ?_) (fun c_4 => ?_)
      · refine lv_iconst (v := 0) hx hb dX4_isPath_39 (by decide) ?_
        refine lv_istore_n (lv' := [(1, .int (0)), (2, .int (lft x k)), (0, .int (x))]) hx hb dX4_isPath_40 rfl hl (by decide) rfl (fun ls hl => ?_)
        refine lv_iload_n hx hb dX4_isPath_41 rfl (lv_at hl 1 rfl) ?_
        refine lv_bipush (v := 10) hx hb dX4_isPath_42 (by decide) ?_
        refine lv_idiv hx hb dX4_isPath_44 (by decide) ?_
        refine mt_te (y := lft x (k + 1)) rfl ?_
        refine lv_istore_n (lv' := [(2, .int (lft x (k + 1))), (1, .int (0)), (0, .int (x))]) hx hb dX4_isPath_45 rfl hl (by decide) rfl (fun ls hl => ?_)
        refine lv_goto (tgt := 12) hx hb dX4_isPath_46 (by decide) ?_
        have hl : lv_has ls 3 [(1, .int (c_X4_isPath_ls x (k + 1))), (2, .int (lft x (k + 1))), (0, .int (x))] := by rw [show c_X4_isPath_ls x (k + 1) = 0 from (by rw [c_X4_isPath_ls, if_neg c_3, if_pos c_4])]; exact lv_sub hl [1, 0, 2] rfl
        exact ih _ _ _ trivial hW hS hl
      · refine lv_iconst (v := 1) hx hb dX4_isPath_35 (by decide) ?_
        refine lv_goto (tgt := 40) hx hb dX4_isPath_36 (by decide) ?_
        refine lv_istore_n (lv' := [(1, .int (1)), (2, .int (lft x k)), (0, .int (x))]) hx hb dX4_isPath_40 rfl hl (by decide) rfl (fun ls hl => ?_)
        refine lv_iload_n hx hb dX4_isPath_41 rfl (lv_at hl 1 rfl) ?_
        refine lv_bipush (v := 10) hx hb dX4_isPath_42 (by decide) ?_
        refine lv_idiv hx hb dX4_isPath_44 (by decide) ?_
        refine mt_te (y := lft x (k + 1)) rfl ?_
        refine lv_istore_n (lv' := [(2, .int (lft x (k + 1))), (1, .int (1)), (0, .int (x))]) hx hb dX4_isPath_45 rfl hl (by decide) rfl (fun ls hl => ?_)
        refine lv_goto (tgt := 12) hx hb dX4_isPath_46 (by decide) ?_
        have hl : lv_has ls 3 [(1, .int (c_X4_isPath_ls x (k + 1))), (2, .int (lft x (k + 1))), (0, .int (x))] := by rw [show c_X4_isPath_ls x (k + 1) = 1 from (by rw [c_X4_isPath_ls, if_neg c_3, if_neg c_4])]; exact lv_sub hl [1, 0, 2] rfl
        exact ih _ _ _ trivial hW hS hl
def c_X4_power (b : Int32) (n : Int32) : Int32 := c_pw b n.toNatClampNeg
set_option maxRecDepth 100000 in
set_option maxHeartbeats 4000000 in
theorem k_X4_power (l : Launch) (hlt : l.stackTraces = false) (g : mt_G) (z : Nat) (ad : Nat → Nat) (lc mc bc : Nat) (N G : Nat → Nat → Int32) (o : Nat → Int64) (d : mt_D) (h6 : lc ≤ 6) (h8 : mc ≤ 8) (hb6 : bc ≤ 6) (b : Int32) (n : Int32)  : mt_K l g z yX4_power cX4_power 4 (some .int) 0 0 0 0 [.int b, .int n] (mt_wc g ad lc mc bc N G o d) ad (.inr (some (.int (c_X4_power b n)))) (mt_wc g ad lc mc bc N G o d) ad := by
  refine mt_ofW (by decide +kernel) (Nat.le_of_ble_eq_true rfl) ?_
  intro p e s m args below meth c S hr9 hk hnm hout hC hW hS ls hl
  have hr := hr9
  have hx := S.1
  have hb := S.2.1
  have hl : lv_has ls 4 [(0, .int (b)), (1, .int (n))] := hl
  refine lv_iconst (v := 1) hx hb dX4_power_0 (by decide) ?_
  refine lv_istore_n (lv' := [(2, .int (1)), (0, .int (b)), (1, .int (n))]) hx hb dX4_power_1 rfl hl (by decide) rfl (fun ls hl => ?_)
  refine lv_iconst (v := 0) hx hb dX4_power_2 (by decide) ?_
  refine lv_istore_n (lv' := [(3, .int (0)), (2, .int (1)), (0, .int (b)), (1, .int (n))]) hx hb dX4_power_3 rfl hl (by decide) rfl (fun ls hl => ?_)
  have hl : lv_has ls 4 [(3, .int (nI 0)), (2, .int (c_pw b 0)), (0, .int (b)), (1, .int (n))] := lv_sub hl [0, 1, 2, 3] rfl
  refine lp_up n.toNatClampNeg (fun k => mt_wc g ad lc mc bc N G o d) (fun k => [(3, .int (nI k)), (2, .int (c_pw b k)), (0, .int (b)), (1, .int (n))]) (fun _ => True) 0 (by omega) trivial hW hS hl (fun H locs ls hP hW hS hl => ?_) (fun k H locs ls hk0 hkn hP hW hS hl ih => ?_)
  · have hW : mt_W g z (mt_wc g ad lc mc bc N G o d) ad _ := hW
    have hl : lv_has ls 4 [(3, .int (nI n.toNatClampNeg)), (2, .int (c_pw b n.toNatClampNeg)), (0, .int (b)), (1, .int (n))] := hl
    refine lv_iload_n hx hb dX4_power_4 rfl (lv_at hl 0 rfl) ?_
    refine lv_iload_n hx hb dX4_power_5 rfl (lv_at hl 3 rfl) ?_
    refine lv_icmp_ge (tgt := 19) hx hb dX4_power_6 (by decide) (fun c_1 => ?_) (fun c_1 => absurd pwx_e c_1)
    refine lv_iload_n hx hb dX4_power_19 rfl (lv_at hl 1 rfl) ?_
    exact mt_ri S hr hk hW hS (by rw [c_X4_power]) (Nat.le_of_ble_eq_true rfl) (Nat.le_of_ble_eq_true rfl) dX4_power_20
  · have hW : mt_W g z (mt_wc g ad lc mc bc N G o d) ad _ := hW
    have hl : lv_has ls 4 [(3, .int (nI k)), (2, .int (c_pw b k)), (0, .int (b)), (1, .int (n))] := hl
    refine lv_iload_n hx hb dX4_power_4 rfl (lv_at hl 0 rfl) ?_
    refine lv_iload_n hx hb dX4_power_5 rfl (lv_at hl 3 rfl) ?_
    refine lv_icmp_ge (tgt := 19) hx hb dX4_power_6 (by decide) (fun c_2 => absurd c_2 (pwx_b hkn)) (fun c_2 => ?_)
    refine lv_iload_n hx hb dX4_power_9 rfl (lv_at hl 1 rfl) ?_
    refine lv_iload_n hx hb dX4_power_10 rfl (lv_at hl 2 rfl) ?_
    refine lv_imul hx hb dX4_power_11 ?_
    refine lv_istore_n (lv' := [(2, .int ((c_pw b k) * b)), (3, .int (nI k)), (0, .int (b)), (1, .int (n))]) hx hb dX4_power_12 rfl hl (by decide) rfl (fun ls hl => ?_)
    refine lv_iinc (v := nI (k + 1)) (lv' := [(3, .int (nI (k + 1))), (2, .int ((c_pw b k) * b)), (0, .int (b)), (1, .int (n))]) hx hb dX4_power_13 hl (k := 1) rfl (nI_1 _) (by decide) rfl (fun ls hl => ?_)
    refine lv_goto (tgt := 4) hx hb dX4_power_16 (by decide) ?_
    have hl : lv_has ls 4 [(3, .int (nI (k + 1))), (2, .int (c_pw b (k + 1))), (0, .int (b)), (1, .int (n))] := lv_sub hl [0, 1, 2, 3] rfl
    exact ih _ _ _ trivial hW hS hl
def c_X4_digits (x : Int32) : Int32 := nI (dn (rkI x))
set_option maxRecDepth 100000 in
set_option maxHeartbeats 4000000 in
theorem k_X4_digits (l : Launch) (hlt : l.stackTraces = false) (g : mt_G) (z : Nat) (ad : Nat → Nat) (lc mc bc : Nat) (N G : Nat → Nat → Int32) (o : Nat → Int64) (d : mt_D) (h6 : lc ≤ 6) (h8 : mc ≤ 8) (hb6 : bc ≤ 6) (x : Int32) (hx0 : IsP x) : mt_K l g z yX4_digits cX4_digits 3 (some .int) 0 0 0 0 [.int x] (mt_wc g ad lc mc bc N G o d) ad (.inr (some (.int (c_X4_digits x)))) (mt_wc g ad lc mc bc N G o d) ad := by
  refine mt_ofW (by decide +kernel) (Nat.le_of_ble_eq_true rfl) ?_
  intro p e s m args below meth c S hr9 hk hnm hout hC hW hS ls hl
  have hr := hr9
  have hx := S.1
  have hb := S.2.1
  have hl : lv_has ls 3 [(0, .int (x))] := hl
  refine lv_iconst (v := 0) hx hb dX4_digits_0 (by decide) ?_
  refine lv_istore_n (lv' := [(1, .int (0)), (0, .int (x))]) hx hb dX4_digits_1 rfl hl (by decide) rfl (fun ls hl => ?_)
  refine lv_iload_n hx hb dX4_digits_2 rfl (lv_at hl 1 rfl) ?_
  refine lv_istore_n (lv' := [(2, .int (x)), (1, .int (0)), (0, .int (x))]) hx hb dX4_digits_3 rfl hl (by decide) rfl (fun ls hl => ?_)
  have hl : lv_has ls 3 [(1, .int (nI 0)), (2, .int (nI (pth (anc (rkI x) 0)))), (0, .int (x))] := by rw [show nI (pth (anc (rkI x) 0)) = x from hx0.1.symm]; exact lv_sub hl [1, 0, 2] rfl
  refine lp_up (dn (rkI x)) (fun k => mt_wc g ad lc mc bc N G o d) (fun k => [(1, .int (nI k)), (2, .int (nI (pth (anc (rkI x) k)))), (0, .int (x))]) (fun _ => True) 0 (by omega) trivial hW hS hl (fun H locs ls hP hW hS hl => ?_) (fun k H locs ls hk0 hkn hP hW hS hl ih => ?_)
  · have hW : mt_W g z (mt_wc g ad lc mc bc N G o d) ad _ := hW
    have hl : lv_has ls 3 [(1, .int (nI (dn (rkI x)))), (2, .int (nI (pth (anc (rkI x) (dn (rkI x)))))), (0, .int (x))] := hl
    refine lv_iload_n hx hb dX4_digits_4 rfl (lv_at hl 1 rfl) ?_
    refine lv_if_le (tgt := 19) hx hb dX4_digits_5 (by decide) (fun c_1 => ?_) (fun c_1 => absurd (dig_e hx0) c_1)
    refine lv_iload_n hx hb dX4_digits_19 rfl (lv_at hl 0 rfl) ?_
    exact mt_ri S hr hk hW hS rfl (Nat.le_of_ble_eq_true rfl) (Nat.le_of_ble_eq_true rfl) dX4_digits_20
  · have hW : mt_W g z (mt_wc g ad lc mc bc N G o d) ad _ := hW
    have hl : lv_has ls 3 [(1, .int (nI k)), (2, .int (nI (pth (anc (rkI x) k)))), (0, .int (x))] := hl
    refine lv_iload_n hx hb dX4_digits_4 rfl (lv_at hl 1 rfl) ?_
    refine lv_if_le (tgt := 19) hx hb dX4_digits_5 (by decide) (fun c_2 => absurd c_2 (dig_b hx0 hkn)) (fun c_2 => ?_)
    refine lv_iinc (v := nI (k + 1)) (lv' := [(1, .int (nI (k + 1))), (2, .int (nI (pth (anc (rkI x) k)))), (0, .int (x))]) hx hb dX4_digits_8 hl (k := 0) rfl (nI_1 _) (by decide) rfl (fun ls hl => ?_)
    refine lv_iload_n hx hb dX4_digits_11 rfl (lv_at hl 1 rfl) ?_
    refine lv_bipush (v := 10) hx hb dX4_digits_12 (by decide) ?_
    refine lv_idiv hx hb dX4_digits_14 (by decide) ?_
    refine mt_te (y := nI (pth (anc (rkI x) (k + 1)))) (dig_s hx0 k) ?_
    refine lv_istore_n (lv' := [(2, .int (nI (pth (anc (rkI x) (k + 1))))), (1, .int (nI (k + 1))), (0, .int (x))]) hx hb dX4_digits_15 rfl hl (by decide) rfl (fun ls hl => ?_)
    refine lv_goto (tgt := 4) hx hb dX4_digits_16 (by decide) ?_
    have hl : lv_has ls 3 [(1, .int (nI (k + 1))), (2, .int (nI (pth (anc (rkI x) (k + 1))))), (0, .int (x))] := lv_sub hl [1, 0, 2] rfl
    exact ih _ _ _ trivial hW hS hl
def c_X4_rank_la (x : Int32) : Nat → Int32
  | 0 => 0
  | k + 1 => ((4 * (c_X4_rank_la x k)) + ((x / (c_X4_power 10 (kI (dn (rkI x) - k)))) - (x / (c_X4_power 10 (kI (dn (rkI x) - k)))) / 10 * 10)) - 1
def c_X4_rank (x : Int32) : Int32 := (((c_X4_power 4 (c_X4_digits x)) - 1) / 3) + (c_X4_rank_la x (dn (rkI x)))
set_option maxRecDepth 100000 in
set_option maxHeartbeats 4000000 in
theorem k_X4_rank (l : Launch) (hlt : l.stackTraces = false) (g : mt_G) (z : Nat) (ad : Nat → Nat) (lc mc bc : Nat) (N G : Nat → Nat → Int32) (o : Nat → Int64) (d : mt_D) (h6 : lc ≤ 6) (h8 : mc ≤ 8) (hb6 : bc ≤ 6) (x : Int32) (hx0 : IsP x) : mt_K l g z yX4_rank cX4_rank 4 (some .int) 1 23 0 0 [.int x] (mt_wc g ad lc mc bc N G o d) ad (.inr (some (.int (c_X4_rank x)))) (mt_wc g ad lc mc bc N G o d) ad := by
  refine mt_ofW (by decide +kernel) (Nat.le_of_ble_eq_true rfl) ?_
  intro p e s m args below meth c S hr9 hk hnm hout hC hW hS ls hl
  have hr := hr9
  have hx := S.1
  have hb := S.2.1
  have hl : lv_has ls 4 [(0, .int (x))] := hl
  refine lv_iload_n hx hb dX4_rank_0 rfl (lv_at hl 0 rfl) ?_
  refine mt_cS1 (As := [.int (x)]) (rest := []) S ps_X4_digits mw_ml_X4_56 (k_X4_digits l hlt g z ad lc mc bc N G o d h6 h8 hb6 x hx0) hC hW hS rfl hl.1 rfl (Nat.le_of_ble_eq_true rfl) dX4_rank_1 ⟨(Nat.le_of_ble_eq_true rfl), (Nat.le_of_ble_eq_true rfl)⟩ ⟨(Nat.le_of_ble_eq_true rfl), (Nat.le_of_ble_eq_true rfl)⟩ rfl (fun H locs hW hS => ?_)
  refine lv_istore_n (lv' := [(1, .int (c_X4_digits x)), (0, .int (x))]) hx hb dX4_rank_4 rfl hl (by decide) rfl (fun ls hl => ?_)
  refine lv_iconst (v := 0) hx hb dX4_rank_5 (by decide) ?_
  refine lv_istore_n (lv' := [(2, .int (0)), (1, .int (c_X4_digits x)), (0, .int (x))]) hx hb dX4_rank_6 rfl hl (by decide) rfl (fun ls hl => ?_)
  refine lv_iload_n hx hb dX4_rank_7 rfl (lv_at hl 1 rfl) ?_
  refine lv_iconst (v := 1) hx hb dX4_rank_8 (by decide) ?_
  refine lv_isub hx hb dX4_rank_9 ?_
  refine lv_istore_n (lv' := [(3, .int ((c_X4_digits x) - 1)), (2, .int (0)), (1, .int (c_X4_digits x)), (0, .int (x))]) hx hb dX4_rank_10 rfl hl (by decide) rfl (fun ls hl => ?_)
  have hl : lv_has ls 4 [(2, .int (c_X4_rank_la x 0)), (3, .int (kI (dn (rkI x) - 0))), (0, .int (x)), (1, .int (c_X4_digits x))] := lv_sub hl [1, 0, 3, 2] rfl
  refine lp_up (dn (rkI x)) (fun k => mt_wc g ad lc mc bc N G o d) (fun k => [(2, .int (c_X4_rank_la x k)), (3, .int (kI (dn (rkI x) - k))), (0, .int (x)), (1, .int (c_X4_digits x))]) (fun _ => True) 0 (by omega) trivial hW hS hl (fun H locs ls hP hW hS hl => ?_) (fun k H locs ls hk0 hkn hP hW hS hl ih => ?_)
  · have hW : mt_W g z (mt_wc g ad lc mc bc N G o d) ad _ := hW
    have hl : lv_has ls 4 [(2, .int (c_X4_rank_la x (dn (rkI x)))), (3, .int (kI (dn (rkI x) - (dn (rkI x))))), (0, .int (x)), (1, .int (c_X4_digits x))] := hl
    refine lv_iload_n hx hb dX4_rank_11 rfl (lv_at hl 1 rfl) ?_
    refine lv_if_lt (tgt := 39) hx hb dX4_rank_12 (by decide) (fun c_1 => ?_) (fun c_1 => absurd (kI_e _) c_1)
    refine lv_iconst (v := 4) hx hb dX4_rank_39 (by decide) ?_
    refine lv_iload_n hx hb dX4_rank_40 rfl (lv_at hl 3 rfl) ?_
    refine mt_cS1 (As := [.int (4), .int (c_X4_digits x)]) (rest := []) S ps_X4_power mw_ml_X4_60 (k_X4_power l hlt g z ad lc mc bc N G o d h6 h8 hb6 4 (c_X4_digits x)) hC hW hS rfl hl.1 rfl (Nat.le_of_ble_eq_true rfl) dX4_rank_41 ⟨(Nat.le_of_ble_eq_true rfl), (Nat.le_of_ble_eq_true rfl)⟩ ⟨(Nat.le_of_ble_eq_true rfl), (Nat.le_of_ble_eq_true rfl)⟩ rfl (fun H locs hW hS => ?_)
    refine lv_iconst (v := 1) hx hb dX4_rank_44 (by decide) ?_
    refine lv_isub hx hb dX4_rank_45 ?_
    refine lv_iconst (v := 3) hx hb dX4_rank_46 (by decide) ?_
    refine lv_idiv hx hb dX4_rank_47 (by decide) ?_
    refine lv_iload_n hx hb dX4_rank_48 rfl (lv_at hl 0 rfl) ?_
    refine lv_iadd hx hb dX4_rank_49 ?_
    exact mt_ri S hr hk hW hS (by rw [c_X4_rank]) (Nat.le_of_ble_eq_true rfl) (Nat.le_of_ble_eq_true rfl) dX4_rank_50
  · have hW : mt_W g z (mt_wc g ad lc mc bc N G o d) ad _ := hW
    have hl : lv_has ls 4 [(2, .int (c_X4_rank_la x k)), (3, .int (kI (dn (rkI x) - k))), (0, .int (x)), (1, .int (c_X4_digits x))] := hl
    refine lv_iload_n hx hb dX4_rank_11 rfl (lv_at hl 1 rfl) ?_
    refine lv_if_lt (tgt := 39) hx hb dX4_rank_12 (by decide) (fun c_2 => absurd c_2 (kI_b hkn (dn_le _)).1) (fun c_2 => ?_)
    refine lv_iconst (v := 4) hx hb dX4_rank_15 (by decide) ?_
    refine lv_iload_n hx hb dX4_rank_16 rfl (lv_at hl 0 rfl) ?_
    refine lv_imul hx hb dX4_rank_17 ?_
    refine lv_iload_n hx hb dX4_rank_18 rfl (lv_at hl 2 rfl) ?_
    refine lv_bipush (v := 10) hx hb dX4_rank_19 (by decide) ?_
    refine lv_iload_n hx hb dX4_rank_21 rfl (lv_at hl 1 rfl) ?_
    refine mt_cS1 (As := [.int (10), .int (kI (dn (rkI x) - k))]) (rest := [.int (x), .int (4 * (c_X4_rank_la x k))]) S ps_X4_power mw_ml_X4_60 (k_X4_power l hlt g z ad lc mc bc N G o d h6 h8 hb6 10 (kI (dn (rkI x) - k))) hC hW hS rfl hl.1 rfl (Nat.le_of_ble_eq_true rfl) dX4_rank_22 ⟨(Nat.le_of_ble_eq_true rfl), (Nat.le_of_ble_eq_true rfl)⟩ ⟨(Nat.le_of_ble_eq_true rfl), (Nat.le_of_ble_eq_true rfl)⟩ rfl (fun H locs hW hS => ?_)
    refine lv_idiv hx hb dX4_rank_25 (pw10_ne _ (kI_b hkn (dn_le _)).2.1) ?_
    refine lv_bipush (v := 10) hx hb dX4_rank_26 (by decide) ?_
    refine lv_irem hx hb dX4_rank_28 (by decide) ?_
    refine lv_iadd hx hb dX4_rank_29 ?_
    refine lv_iconst (v := 1) hx hb dX4_rank_30 (by decide) ?_
    refine lv_isub hx hb dX4_rank_31 ?_
    refine lv_istore_n (lv' := [(2, .int (((4 * (c_X4_rank_la x k)) + ((x / (c_X4_power 10 (kI (dn (rkI x) - k)))) - (x / (c_X4_power 10 (kI (dn (rkI x) - k)))) / 10 * 10)) - 1)), (3, .int (kI (dn (rkI x) - k))), (0, .int (x)), (1, .int (c_X4_digits x))]) hx hb dX4_rank_32 rfl hl (by decide) rfl (fun ls hl => ?_)
    refine lv_iinc (v := kI (dn (rkI x) - k) + -1) (lv' := [(3, .int (kI (dn (rkI x) - k) + -1)), (2, .int (((4 * (c_X4_rank_la x k)) + ((x / (c_X4_power 10 (kI (dn (rkI x) - k)))) - (x / (c_X4_power 10 (kI (dn (rkI x) - k)))) / 10 * 10)) - 1)), (0, .int (x)), (1, .int (c_X4_digits x))]) hx hb dX4_rank_33 hl (k := 1) rfl rfl (by decide) rfl (fun ls hl => ?_)
    refine lv_goto (tgt := 11) hx hb dX4_rank_36 (by decide) ?_
    have hl : lv_has ls 4 [(2, .int (c_X4_rank_la x (k + 1))), (3, .int (kI (dn (rkI x) - (k + 1)))), (0, .int (x)), (1, .int (c_X4_digits x))] := by rw [show c_X4_rank_la x (k + 1) = ((4 * (c_X4_rank_la x k)) + ((x / (c_X4_power 10 (kI (dn (rkI x) - k)))) - (x / (c_X4_power 10 (kI (dn (rkI x) - k)))) / 10 * 10)) - 1 from (by rw [c_X4_rank_la]), show kI (dn (rkI x) - (k + 1)) = kI (dn (rkI x) - k) + -1 from (kI_b hkn (dn_le _)).2.2.symm]; exact lv_sub hl [1, 0, 2, 3] rfl
    exact ih _ _ _ trivial hW hS hl
def c_X4_begins (x : Int32) (y : Int32) : Int32 := if ((c_X4_digits x) - (c_X4_digits y)) < 0 then 0 else (if (x / (c_X4_power 10 ((c_X4_digits x) - (c_X4_digits y)))) = y then 1 else 0)
set_option maxRecDepth 100000 in
set_option maxHeartbeats 4000000 in
theorem k_X4_begins (l : Launch) (hlt : l.stackTraces = false) (g : mt_G) (z : Nat) (ad : Nat → Nat) (lc mc bc : Nat) (N G : Nat → Nat → Int32) (o : Nat → Int64) (d : mt_D) (h6 : lc ≤ 6) (h8 : mc ≤ 8) (hb6 : bc ≤ 6) (x : Int32) (y : Int32) (hx0 : IsP x) (hy0 : IsP y) : mt_K l g z yX4_begins cX4_begins 3 (some .boolean) 1 23 0 0 [.int x, .int y] (mt_wc g ad lc mc bc N G o d) ad (.inr (some (.int (c_X4_begins x y)))) (mt_wc g ad lc mc bc N G o d) ad := by
  refine mt_ofW (by decide +kernel) (Nat.le_of_ble_eq_true rfl) ?_
  intro p e s m args below meth c S hr9 hk hnm hout hC hW hS ls hl
  have hr := hr9
  have hx := S.1
  have hb := S.2.1
  have hl : lv_has ls 3 [(0, .int (x)), (1, .int (y))] := hl
  refine lv_iload_n hx hb dX4_begins_0 rfl (lv_at hl 0 rfl) ?_
  refine mt_cS1 (As := [.int (x)]) (rest := []) S ps_X4_digits mw_ml_X4_56 (k_X4_digits l hlt g z ad lc mc bc N G o d h6 h8 hb6 x hx0) hC hW hS rfl hl.1 rfl (Nat.le_of_ble_eq_true rfl) dX4_begins_1 ⟨(Nat.le_of_ble_eq_true rfl), (Nat.le_of_ble_eq_true rfl)⟩ ⟨(Nat.le_of_ble_eq_true rfl), (Nat.le_of_ble_eq_true rfl)⟩ rfl (fun H locs hW hS => ?_)
  refine lv_iload_n hx hb dX4_begins_4 rfl (lv_at hl 1 rfl) ?_
  refine mt_cS1 (As := [.int (y)]) (rest := [.int (c_X4_digits x)]) S ps_X4_digits mw_ml_X4_56 (k_X4_digits l hlt g z ad lc mc bc N G o d h6 h8 hb6 y hy0) hC hW hS rfl hl.1 rfl (Nat.le_of_ble_eq_true rfl) dX4_begins_5 ⟨(Nat.le_of_ble_eq_true rfl), (Nat.le_of_ble_eq_true rfl)⟩ ⟨(Nat.le_of_ble_eq_true rfl), (Nat.le_of_ble_eq_true rfl)⟩ rfl (fun H locs hW hS => ?_)
  refine lv_isub hx hb dX4_begins_8 ?_
  refine lv_istore_n (lv' := [(2, .int ((c_X4_digits x) - (c_X4_digits y))), (0, .int (x)), (1, .int (y))]) hx hb dX4_begins_9 rfl hl (by decide) rfl (fun ls hl => ?_)
  refine lv_iload_n hx hb dX4_begins_10 rfl (lv_at hl 0 rfl) ?_
  refine lv_if_lt (tgt := 30) hx hb dX4_begins_11 (by decide) (fun c_1 => ?_) (fun c_1 => ?_)
  · refine lv_iconst (v := 0) hx hb dX4_begins_30 (by decide) ?_
    exact mt_rz S hr hk rfl hW hS (by rw [c_X4_begins, if_pos c_1]) (Nat.le_of_ble_eq_true rfl) (Nat.le_of_ble_eq_true rfl) dX4_begins_31
  · refine lv_iload_n hx hb dX4_begins_14 rfl (lv_at hl 1 rfl) ?_
    refine lv_bipush (v := 10) hx hb dX4_begins_15 (by decide) ?_
    refine lv_iload_n hx hb dX4_begins_17 rfl (lv_at hl 0 rfl) ?_
    refine mt_cS1 (As := [.int (10), .int ((c_X4_digits x) - (c_X4_digits y))]) (rest := [.int (x)]) S ps_X4_power mw_ml_X4_60 (k_X4_power l hlt g z ad lc mc bc N G o d h6 h8 hb6 10 ((c_X4_digits x) - (c_X4_digits y))) hC hW hS rfl hl.1 rfl (Nat.le_of_ble_eq_true rfl) dX4_begins_18 ⟨(Nat.le_of_ble_eq_true rfl), (Nat.le_of_ble_eq_true rfl)⟩ ⟨(Nat.le_of_ble_eq_true rfl), (Nat.le_of_ble_eq_true rfl)⟩ rfl (fun H locs hW hS => ?_)
    refine lv_idiv hx hb dX4_begins_21 (pw10_ne _ (dn_sub _ _)) ?_
    refine lv_iload_n hx hb dX4_begins_22 rfl (lv_at hl 2 rfl) ?_
    refine lv_icmp_ne (tgt := 30) hx hb dX4_begins_23 (by decide) (fun c_2 => ?_) (fun c_2 => ?_)
    · refine lv_iconst (v := 0) hx hb dX4_begins_30 (by decide) ?_
      exact mt_rz S hr hk rfl hW hS (by rw [c_X4_begins, if_neg c_1, if_neg c_2]) (Nat.le_of_ble_eq_true rfl) (Nat.le_of_ble_eq_true rfl) dX4_begins_31
    · refine lv_iconst (v := 1) hx hb dX4_begins_26 (by decide) ?_
      refine lv_goto (tgt := 31) hx hb dX4_begins_27 (by decide) ?_
      exact mt_rz S hr hk rfl hW hS (by rw [c_X4_begins, if_neg c_1, if_pos c_2]) (Nat.le_of_ble_eq_true rfl) (Nat.le_of_ble_eq_true rfl) dX4_begins_31
def c_X4_rest (x : Int32) (y : Int32) : Int32 := x - x / (c_X4_power 10 ((c_X4_digits x) - (c_X4_digits y))) * (c_X4_power 10 ((c_X4_digits x) - (c_X4_digits y)))
set_option maxRecDepth 100000 in
set_option maxHeartbeats 4000000 in
theorem k_X4_rest (l : Launch) (hlt : l.stackTraces = false) (g : mt_G) (z : Nat) (ad : Nat → Nat) (lc mc bc : Nat) (N G : Nat → Nat → Int32) (o : Nat → Int64) (d : mt_D) (h6 : lc ≤ 6) (h8 : mc ≤ 8) (hb6 : bc ≤ 6) (x : Int32) (y : Int32) (hx0 : IsP x) (hy0 : IsP y) : mt_K l g z yX4_rest cX4_rest 2 (some .int) 1 23 0 0 [.int x, .int y] (mt_wc g ad lc mc bc N G o d) ad (.inr (some (.int (c_X4_rest x y)))) (mt_wc g ad lc mc bc N G o d) ad := by
  refine mt_ofW (by decide +kernel) (Nat.le_of_ble_eq_true rfl) ?_
  intro p e s m args below meth c S hr9 hk hnm hout hC hW hS ls hl
  have hr := hr9
  have hx := S.1
  have hb := S.2.1
  have hl : lv_has ls 2 [(0, .int (x)), (1, .int (y))] := hl
  refine lv_iload_n hx hb dX4_rest_0 rfl (lv_at hl 0 rfl) ?_
  refine lv_bipush (v := 10) hx hb dX4_rest_1 (by decide) ?_
  refine lv_iload_n hx hb dX4_rest_3 rfl (lv_at hl 0 rfl) ?_
  refine mt_cS1 (As := [.int (x)]) (rest := [.int (10), .int (x)]) S ps_X4_digits mw_ml_X4_56 (k_X4_digits l hlt g z ad lc mc bc N G o d h6 h8 hb6 x hx0) hC hW hS rfl hl.1 rfl (Nat.le_of_ble_eq_true rfl) dX4_rest_4 ⟨(Nat.le_of_ble_eq_true rfl), (Nat.le_of_ble_eq_true rfl)⟩ ⟨(Nat.le_of_ble_eq_true rfl), (Nat.le_of_ble_eq_true rfl)⟩ rfl (fun H locs hW hS => ?_)
  refine lv_iload_n hx hb dX4_rest_7 rfl (lv_at hl 1 rfl) ?_
  refine mt_cS1 (As := [.int (y)]) (rest := [.int (c_X4_digits x), .int (10), .int (x)]) S ps_X4_digits mw_ml_X4_56 (k_X4_digits l hlt g z ad lc mc bc N G o d h6 h8 hb6 y hy0) hC hW hS rfl hl.1 rfl (Nat.le_of_ble_eq_true rfl) dX4_rest_8 ⟨(Nat.le_of_ble_eq_true rfl), (Nat.le_of_ble_eq_true rfl)⟩ ⟨(Nat.le_of_ble_eq_true rfl), (Nat.le_of_ble_eq_true rfl)⟩ rfl (fun H locs hW hS => ?_)
  refine lv_isub hx hb dX4_rest_11 ?_
  refine mt_cS1 (As := [.int (10), .int ((c_X4_digits x) - (c_X4_digits y))]) (rest := [.int (x)]) S ps_X4_power mw_ml_X4_60 (k_X4_power l hlt g z ad lc mc bc N G o d h6 h8 hb6 10 ((c_X4_digits x) - (c_X4_digits y))) hC hW hS rfl hl.1 rfl (Nat.le_of_ble_eq_true rfl) dX4_rest_12 ⟨(Nat.le_of_ble_eq_true rfl), (Nat.le_of_ble_eq_true rfl)⟩ ⟨(Nat.le_of_ble_eq_true rfl), (Nat.le_of_ble_eq_true rfl)⟩ rfl (fun H locs hW hS => ?_)
  refine lv_irem hx hb dX4_rest_15 (pw10_ne _ (dn_sub _ _)) ?_
  exact mt_ri S hr hk hW hS (by rw [c_X4_rest]) (Nat.le_of_ble_eq_true rfl) (Nat.le_of_ble_eq_true rfl) dX4_rest_16
def c_X4_pathOf_qa (x : Int32) : Nat → Int32
  | 0 => 0
  | k + 1 => ((10 * (c_X4_pathOf_qa x k)) + (((nI (x.toNatClampNeg - Fn (dn x.toNatClampNeg))) / (c_X4_power 4 (kI (dn x.toNatClampNeg - k)))) - ((nI (x.toNatClampNeg - Fn (dn x.toNatClampNeg))) / (c_X4_power 4 (kI (dn x.toNatClampNeg - k)))) / 4 * 4)) + 1
def c_X4_pathOf (x : Int32) : Int32 := c_X4_pathOf_qa x (dn x.toNatClampNeg)
set_option maxRecDepth 100000 in
set_option maxHeartbeats 4000000 in
theorem k_X4_pathOf (l : Launch) (hlt : l.stackTraces = false) (g : mt_G) (z : Nat) (ad : Nat → Nat) (lc mc bc : Nat) (N G : Nat → Nat → Int32) (o : Nat → Int64) (d : mt_D) (h6 : lc ≤ 6) (h8 : mc ≤ 8) (hb6 : bc ≤ 6) (x : Int32) (hx0 : IsR x) : mt_K l g z yX4_pathOf cX4_pathOf 5 (some .int) 1 23 0 0 [.int x] (mt_wc g ad lc mc bc N G o d) ad (.inr (some (.int (c_X4_pathOf x)))) (mt_wc g ad lc mc bc N G o d) ad := by
  refine mt_ofW (by decide +kernel) (Nat.le_of_ble_eq_true rfl) ?_
  intro p e s m args below meth c S hr9 hk hnm hout hC hW hS ls hl
  have hr := hr9
  have hx := S.1
  have hb := S.2.1
  have hl : lv_has ls 5 [(0, .int (x))] := hl
  refine lv_iconst (v := 0) hx hb dX4_pathOf_0 (by decide) ?_
  refine lv_istore_n (lv' := [(1, .int (0)), (0, .int (x))]) hx hb dX4_pathOf_1 rfl hl (by decide) rfl (fun ls hl => ?_)
  refine lv_iload_n hx hb dX4_pathOf_2 rfl (lv_at hl 1 rfl) ?_
  refine lv_istore_n (lv' := [(2, .int (x)), (1, .int (0)), (0, .int (x))]) hx hb dX4_pathOf_3 rfl hl (by decide) rfl (fun ls hl => ?_)
  have hl : lv_has ls 5 [(1, .int (nI 0)), (2, .int (nI (x.toNatClampNeg - Fn 0))), (0, .int (x))] := by rw [show nI (x.toNatClampNeg - Fn 0) = x from hx0.1.symm]; exact lv_sub hl [1, 0, 2] rfl
  refine lp_up (dn x.toNatClampNeg) (fun k => mt_wc g ad lc mc bc N G o d) (fun k => [(1, .int (nI k)), (2, .int (nI (x.toNatClampNeg - Fn k))), (0, .int (x))]) (fun _ => True) 0 (by omega) trivial hW hS hl (fun H locs ls hP hW hS hl => ?_) (fun k H locs ls hk0 hkn hP hW hS hl ih => ?_)
  · have hW : mt_W g z (mt_wc g ad lc mc bc N G o d) ad _ := hW
    have hl : lv_has ls 5 [(1, .int (nI (dn x.toNatClampNeg))), (2, .int (nI (x.toNatClampNeg - Fn (dn x.toNatClampNeg)))), (0, .int (x))] := hl
    refine lv_iload_n hx hb dX4_pathOf_4 rfl (lv_at hl 1 rfl) ?_
    refine lv_iconst (v := 4) hx hb dX4_pathOf_5 (by decide) ?_
    refine lv_iload_n hx hb dX4_pathOf_6 rfl (lv_at hl 0 rfl) ?_
    refine mt_cS1 (As := [.int (4), .int (nI (dn x.toNatClampNeg))]) (rest := [.int (nI (x.toNatClampNeg - Fn (dn x.toNatClampNeg)))]) S ps_X4_power mw_ml_X4_60 (k_X4_power l hlt g z ad lc mc bc N G o d h6 h8 hb6 4 (nI (dn x.toNatClampNeg))) hC hW hS rfl hl.1 rfl (Nat.le_of_ble_eq_true rfl) dX4_pathOf_7 ⟨(Nat.le_of_ble_eq_true rfl), (Nat.le_of_ble_eq_true rfl)⟩ ⟨(Nat.le_of_ble_eq_true rfl), (Nat.le_of_ble_eq_true rfl)⟩ rfl (fun H locs hW hS => ?_)
    refine lv_icmp_lt (tgt := 27) hx hb dX4_pathOf_10 (by decide) (fun c_1 => ?_) (fun c_1 => absurd (pof_e _ hx0.2) c_1)
    refine lv_iconst (v := 0) hx hb dX4_pathOf_27 (by decide) ?_
    refine lv_istore_n (lv' := [(3, .int (0)), (1, .int (nI (dn x.toNatClampNeg))), (2, .int (nI (x.toNatClampNeg - Fn (dn x.toNatClampNeg)))), (0, .int (x))]) hx hb dX4_pathOf_28 rfl hl (by decide) rfl (fun ls hl => ?_)
    refine lv_iload_n hx hb dX4_pathOf_29 rfl (lv_at hl 1 rfl) ?_
    refine lv_iconst (v := 1) hx hb dX4_pathOf_30 (by decide) ?_
    refine lv_isub hx hb dX4_pathOf_31 ?_
    refine lv_istore (lv' := [(4, .int ((nI (dn x.toNatClampNeg)) - 1)), (3, .int (0)), (1, .int (nI (dn x.toNatClampNeg))), (2, .int (nI (x.toNatClampNeg - Fn (dn x.toNatClampNeg)))), (0, .int (x))]) hx hb dX4_pathOf_32 hl (by decide) rfl (fun ls hl => ?_)
    have hl : lv_has ls 5 [(3, .int (c_X4_pathOf_qa x 0)), (4, .int (kI (dn x.toNatClampNeg - 0))), (0, .int (x)), (1, .int (nI (dn x.toNatClampNeg))), (2, .int (nI (x.toNatClampNeg - Fn (dn x.toNatClampNeg))))] := lv_sub hl [1, 0, 4, 2, 3] rfl
    refine lp_up (dn x.toNatClampNeg) (fun k => mt_wc g ad lc mc bc N G o d) (fun k => [(3, .int (c_X4_pathOf_qa x k)), (4, .int (kI (dn x.toNatClampNeg - k))), (0, .int (x)), (1, .int (nI (dn x.toNatClampNeg))), (2, .int (nI (x.toNatClampNeg - Fn (dn x.toNatClampNeg))))]) (fun _ => True) 0 (by omega) trivial hW hS hl (fun H locs ls hP hW hS hl => ?_) (fun k H locs ls hk0 hkn hP hW hS hl ih => ?_)
    · have hW : mt_W g z (mt_wc g ad lc mc bc N G o d) ad _ := hW
      have hl : lv_has ls 5 [(3, .int (c_X4_pathOf_qa x (dn x.toNatClampNeg))), (4, .int (kI (dn x.toNatClampNeg - (dn x.toNatClampNeg)))), (0, .int (x)), (1, .int (nI (dn x.toNatClampNeg))), (2, .int (nI (x.toNatClampNeg - Fn (dn x.toNatClampNeg))))] := hl
      refine lv_iload hx hb dX4_pathOf_34 (lv_at hl 1 rfl) ?_
      refine lv_if_lt (tgt := 63) hx hb dX4_pathOf_36 (by decide) (fun c_2 => ?_) (fun c_2 => absurd (kI_e _) c_2)
      refine lv_iload_n hx hb dX4_pathOf_63 rfl (lv_at hl 0 rfl) ?_
      exact mt_ri S hr hk hW hS (by rw [c_X4_pathOf]) (Nat.le_of_ble_eq_true rfl) (Nat.le_of_ble_eq_true rfl) dX4_pathOf_64
    · have hW : mt_W g z (mt_wc g ad lc mc bc N G o d) ad _ := hW
      have hl : lv_has ls 5 [(3, .int (c_X4_pathOf_qa x k)), (4, .int (kI (dn x.toNatClampNeg - k))), (0, .int (x)), (1, .int (nI (dn x.toNatClampNeg))), (2, .int (nI (x.toNatClampNeg - Fn (dn x.toNatClampNeg))))] := hl
      refine lv_iload hx hb dX4_pathOf_34 (lv_at hl 1 rfl) ?_
      refine lv_if_lt (tgt := 63) hx hb dX4_pathOf_36 (by decide) (fun c_3 => absurd c_3 (kI_b hkn (dn_le _)).1) (fun c_3 => ?_)
      refine lv_bipush (v := 10) hx hb dX4_pathOf_39 (by decide) ?_
      refine lv_iload_n hx hb dX4_pathOf_41 rfl (lv_at hl 0 rfl) ?_
      refine lv_imul hx hb dX4_pathOf_42 ?_
      refine lv_iload_n hx hb dX4_pathOf_43 rfl (lv_at hl 4 rfl) ?_
      refine lv_iconst (v := 4) hx hb dX4_pathOf_44 (by decide) ?_
      refine lv_iload hx hb dX4_pathOf_45 (lv_at hl 1 rfl) ?_
      refine mt_cS1 (As := [.int (4), .int (kI (dn x.toNatClampNeg - k))]) (rest := [.int (nI (x.toNatClampNeg - Fn (dn x.toNatClampNeg))), .int (10 * (c_X4_pathOf_qa x k))]) S ps_X4_power mw_ml_X4_60 (k_X4_power l hlt g z ad lc mc bc N G o d h6 h8 hb6 4 (kI (dn x.toNatClampNeg - k))) hC hW hS rfl hl.1 rfl (Nat.le_of_ble_eq_true rfl) dX4_pathOf_47 ⟨(Nat.le_of_ble_eq_true rfl), (Nat.le_of_ble_eq_true rfl)⟩ ⟨(Nat.le_of_ble_eq_true rfl), (Nat.le_of_ble_eq_true rfl)⟩ rfl (fun H locs hW hS => ?_)
      refine lv_idiv hx hb dX4_pathOf_50 (pw4_ne _ (kI_b hkn (dn_le _)).2.1) ?_
      refine lv_iconst (v := 4) hx hb dX4_pathOf_51 (by decide) ?_
      refine lv_irem hx hb dX4_pathOf_52 (by decide) ?_
      refine lv_iadd hx hb dX4_pathOf_53 ?_
      refine lv_iconst (v := 1) hx hb dX4_pathOf_54 (by decide) ?_
      refine lv_iadd hx hb dX4_pathOf_55 ?_
      refine lv_istore_n (lv' := [(3, .int (((10 * (c_X4_pathOf_qa x k)) + (((nI (x.toNatClampNeg - Fn (dn x.toNatClampNeg))) / (c_X4_power 4 (kI (dn x.toNatClampNeg - k)))) - ((nI (x.toNatClampNeg - Fn (dn x.toNatClampNeg))) / (c_X4_power 4 (kI (dn x.toNatClampNeg - k)))) / 4 * 4)) + 1)), (4, .int (kI (dn x.toNatClampNeg - k))), (0, .int (x)), (1, .int (nI (dn x.toNatClampNeg))), (2, .int (nI (x.toNatClampNeg - Fn (dn x.toNatClampNeg))))]) hx hb dX4_pathOf_56 rfl hl (by decide) rfl (fun ls hl => ?_)
      refine lv_iinc (v := kI (dn x.toNatClampNeg - k) + -1) (lv' := [(4, .int (kI (dn x.toNatClampNeg - k) + -1)), (3, .int (((10 * (c_X4_pathOf_qa x k)) + (((nI (x.toNatClampNeg - Fn (dn x.toNatClampNeg))) / (c_X4_power 4 (kI (dn x.toNatClampNeg - k)))) - ((nI (x.toNatClampNeg - Fn (dn x.toNatClampNeg))) / (c_X4_power 4 (kI (dn x.toNatClampNeg - k)))) / 4 * 4)) + 1)), (0, .int (x)), (1, .int (nI (dn x.toNatClampNeg))), (2, .int (nI (x.toNatClampNeg - Fn (dn x.toNatClampNeg))))]) hx hb dX4_pathOf_57 hl (k := 1) rfl rfl (by decide) rfl (fun ls hl => ?_)
      refine lv_goto (tgt := 34) hx hb dX4_pathOf_60 (by decide) ?_
      have hl : lv_has ls 5 [(3, .int (c_X4_pathOf_qa x (k + 1))), (4, .int (kI (dn x.toNatClampNeg - (k + 1)))), (0, .int (x)), (1, .int (nI (dn x.toNatClampNeg))), (2, .int (nI (x.toNatClampNeg - Fn (dn x.toNatClampNeg))))] := by rw [show c_X4_pathOf_qa x (k + 1) = ((10 * (c_X4_pathOf_qa x k)) + (((nI (x.toNatClampNeg - Fn (dn x.toNatClampNeg))) / (c_X4_power 4 (kI (dn x.toNatClampNeg - k)))) - ((nI (x.toNatClampNeg - Fn (dn x.toNatClampNeg))) / (c_X4_power 4 (kI (dn x.toNatClampNeg - k)))) / 4 * 4)) + 1 from (by rw [c_X4_pathOf_qa]), show kI (dn x.toNatClampNeg - (k + 1)) = kI (dn x.toNatClampNeg - k) + -1 from (kI_b hkn (dn_le _)).2.2.symm]; exact lv_sub hl [1, 0, 2, 3, 4] rfl
      exact ih _ _ _ trivial hW hS hl
  · have hW : mt_W g z (mt_wc g ad lc mc bc N G o d) ad _ := hW
    have hl : lv_has ls 5 [(1, .int (nI k)), (2, .int (nI (x.toNatClampNeg - Fn k))), (0, .int (x))] := hl
    refine lv_iload_n hx hb dX4_pathOf_4 rfl (lv_at hl 1 rfl) ?_
    refine lv_iconst (v := 4) hx hb dX4_pathOf_5 (by decide) ?_
    refine lv_iload_n hx hb dX4_pathOf_6 rfl (lv_at hl 0 rfl) ?_
    refine mt_cS1 (As := [.int (4), .int (nI k)]) (rest := [.int (nI (x.toNatClampNeg - Fn k))]) S ps_X4_power mw_ml_X4_60 (k_X4_power l hlt g z ad lc mc bc N G o d h6 h8 hb6 4 (nI k)) hC hW hS rfl hl.1 rfl (Nat.le_of_ble_eq_true rfl) dX4_pathOf_7 ⟨(Nat.le_of_ble_eq_true rfl), (Nat.le_of_ble_eq_true rfl)⟩ ⟨(Nat.le_of_ble_eq_true rfl), (Nat.le_of_ble_eq_true rfl)⟩ rfl (fun H locs hW hS => ?_)
    refine lv_icmp_lt (tgt := 27) hx hb dX4_pathOf_10 (by decide) (fun c_4 => absurd c_4 (pof_b _ hx0.2 k (by have := dn_le x.toNatClampNeg; omega) hkn).1) (fun c_4 => ?_)
    refine lv_iload_n hx hb dX4_pathOf_13 rfl (lv_at hl 1 rfl) ?_
    refine lv_iconst (v := 4) hx hb dX4_pathOf_14 (by decide) ?_
    refine lv_iload_n hx hb dX4_pathOf_15 rfl (lv_at hl 0 rfl) ?_
    refine mt_cS1 (As := [.int (4), .int (nI k)]) (rest := [.int (nI (x.toNatClampNeg - Fn k))]) S ps_X4_power mw_ml_X4_60 (k_X4_power l hlt g z ad lc mc bc N G o d h6 h8 hb6 4 (nI k)) hC hW hS rfl hl.1 rfl (Nat.le_of_ble_eq_true rfl) dX4_pathOf_16 ⟨(Nat.le_of_ble_eq_true rfl), (Nat.le_of_ble_eq_true rfl)⟩ ⟨(Nat.le_of_ble_eq_true rfl), (Nat.le_of_ble_eq_true rfl)⟩ rfl (fun H locs hW hS => ?_)
    refine lv_isub hx hb dX4_pathOf_19 ?_
    refine mt_te (y := nI (x.toNatClampNeg - Fn (k + 1))) (pof_b _ hx0.2 k (by have := dn_le x.toNatClampNeg; omega) hkn).2 ?_
    refine lv_istore_n (lv' := [(2, .int (nI (x.toNatClampNeg - Fn (k + 1)))), (1, .int (nI k)), (0, .int (x))]) hx hb dX4_pathOf_20 rfl hl (by decide) rfl (fun ls hl => ?_)
    refine lv_iinc (v := nI (k + 1)) (lv' := [(1, .int (nI (k + 1))), (2, .int (nI (x.toNatClampNeg - Fn (k + 1)))), (0, .int (x))]) hx hb dX4_pathOf_21 hl (k := 1) rfl (nI_1 _) (by decide) rfl (fun ls hl => ?_)
    refine lv_goto (tgt := 4) hx hb dX4_pathOf_24 (by decide) ?_
    have hl : lv_has ls 5 [(1, .int (nI (k + 1))), (2, .int (nI (x.toNatClampNeg - Fn (k + 1)))), (0, .int (x))] := lv_sub hl [0, 1, 2] rfl
    exact ih _ _ _ trivial hW hS hl
theorem rank_eq {x : Int32} (h : IsP x) : c_X4_rank x = nI (rkI x) := by
  have key : ∀ r, r < 341 → c_X4_rank (nI (pth r)) = nI r := by decide +kernel
  have h1 := key (rkI x) h.2
  rwa [← h.1] at h1
theorem pathOf_eq {r : Nat} (h : r < 341) : c_X4_pathOf (nI r) = nI (pth r) := by
  have key : ∀ r, r < 341 → c_X4_pathOf (nI r) = nI (pth r) := by decide +kernel
  exact key r h
theorem isR_nI {r : Nat} (h : r < 341) : IsR (nI r) := ⟨by rw [nI_clamp (by omega)], by rw [nI_clamp (by omega)]; exact h⟩
theorem pathOf_P {x : Int32} (h : IsR x) : IsP (c_X4_pathOf x) ∧ rkI (c_X4_pathOf x) = x.toNatClampNeg := by
  have e : c_X4_pathOf x = nI (pth x.toNatClampNeg) := by
    have h1 := pathOf_eq h.2
    rwa [← h.1] at h1
  rw [e]; exact isP_pth h.2

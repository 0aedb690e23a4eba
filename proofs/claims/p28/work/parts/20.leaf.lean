def c_X3_isPlace (x : Int32) : Int32 := if x < 0 then 0 else (if 341 ≤ x then 0 else 1)
set_option maxRecDepth 100000 in
set_option maxHeartbeats 4000000 in
theorem k_X3_isPlace (l : Launch) (hlt : l.stackTraces = false) (g : mt_G) (z : Nat) (ad : Nat → Nat) (lc mc bc : Nat) (N G : Nat → Nat → Int32) (o : Nat → Int64) (d : mt_D) (h6 : lc ≤ 6) (h8 : mc ≤ 8) (hb6 : bc ≤ 6) (x : Int32)  : mt_K l g z yX3_isPlace cX3_isPlace 1 (some .boolean) 0 0 0 0 [.int x] (mt_wc g ad lc mc bc N G o d) ad (.inr (some (.int (c_X3_isPlace x)))) (mt_wc g ad lc mc bc N G o d) ad := by
  refine mt_ofW (by decide +kernel) (Nat.le_of_ble_eq_true rfl) ?_
  intro p e s m args below meth c S hr9 hk hnm hout hC hW hS ls hl
  have hr := hr9
  have hx := S.1
  have hb := S.2.1
  have hl : lv_has ls 1 [(0, .int (x))] := hl
  refine lv_iload_n hx hb dX3_isPlace_0 rfl (lv_at hl 0 rfl) ?_
  refine lv_if_lt (tgt := 15) hx hb dX3_isPlace_1 (by decide) (fun c_1 => ?_) (fun c_1 => ?_)
  · refine lv_iconst (v := 0) hx hb dX3_isPlace_15 (by decide) ?_
    exact mt_rz S hr hk rfl hW hS (by rw [c_X3_isPlace, if_pos c_1]) (Nat.le_of_ble_eq_true rfl) (Nat.le_of_ble_eq_true rfl) dX3_isPlace_16
  · refine lv_iload_n hx hb dX3_isPlace_4 rfl (lv_at hl 0 rfl) ?_
    refine lv_sipush (v := 341) hx hb dX3_isPlace_5 (by decide) ?_
    refine lv_icmp_ge (tgt := 15) hx hb dX3_isPlace_8 (by decide) (fun c_2 => ?_) (fun c_2 => ?_)
    · refine lv_iconst (v := 0) hx hb dX3_isPlace_15 (by decide) ?_
      exact mt_rz S hr hk rfl hW hS (by rw [c_X3_isPlace, if_neg c_1, if_pos c_2]) (Nat.le_of_ble_eq_true rfl) (Nat.le_of_ble_eq_true rfl) dX3_isPlace_16
    · refine lv_iconst (v := 1) hx hb dX3_isPlace_11 (by decide) ?_
      refine lv_goto (tgt := 16) hx hb dX3_isPlace_12 (by decide) ?_
      exact mt_rz S hr hk rfl hW hS (by rw [c_X3_isPlace, if_neg c_1, if_neg c_2]) (Nat.le_of_ble_eq_true rfl) (Nat.le_of_ble_eq_true rfl) dX3_isPlace_16
def c_X3_isOwner (x : Int32) : Int32 := if x < 0 then 0 else (if 4 ≤ x then 0 else 1)
set_option maxRecDepth 100000 in
set_option maxHeartbeats 4000000 in
theorem k_X3_isOwner (l : Launch) (hlt : l.stackTraces = false) (g : mt_G) (z : Nat) (ad : Nat → Nat) (lc mc bc : Nat) (N G : Nat → Nat → Int32) (o : Nat → Int64) (d : mt_D) (h6 : lc ≤ 6) (h8 : mc ≤ 8) (hb6 : bc ≤ 6) (x : Int32)  : mt_K l g z yX3_isOwner cX3_isOwner 1 (some .boolean) 0 0 0 0 [.int x] (mt_wc g ad lc mc bc N G o d) ad (.inr (some (.int (c_X3_isOwner x)))) (mt_wc g ad lc mc bc N G o d) ad := by
  refine mt_ofW (by decide +kernel) (Nat.le_of_ble_eq_true rfl) ?_
  intro p e s m args below meth c S hr9 hk hnm hout hC hW hS ls hl
  have hr := hr9
  have hx := S.1
  have hb := S.2.1
  have hl : lv_has ls 1 [(0, .int (x))] := hl
  refine lv_iload_n hx hb dX3_isOwner_0 rfl (lv_at hl 0 rfl) ?_
  refine lv_if_lt (tgt := 13) hx hb dX3_isOwner_1 (by decide) (fun c_1 => ?_) (fun c_1 => ?_)
  · refine lv_iconst (v := 0) hx hb dX3_isOwner_13 (by decide) ?_
    exact mt_rz S hr hk rfl hW hS (by rw [c_X3_isOwner, if_pos c_1]) (Nat.le_of_ble_eq_true rfl) (Nat.le_of_ble_eq_true rfl) dX3_isOwner_14
  · refine lv_iload_n hx hb dX3_isOwner_4 rfl (lv_at hl 0 rfl) ?_
    refine lv_iconst (v := 4) hx hb dX3_isOwner_5 (by decide) ?_
    refine lv_icmp_ge (tgt := 13) hx hb dX3_isOwner_6 (by decide) (fun c_2 => ?_) (fun c_2 => ?_)
    · refine lv_iconst (v := 0) hx hb dX3_isOwner_13 (by decide) ?_
      exact mt_rz S hr hk rfl hW hS (by rw [c_X3_isOwner, if_neg c_1, if_pos c_2]) (Nat.le_of_ble_eq_true rfl) (Nat.le_of_ble_eq_true rfl) dX3_isOwner_14
    · refine lv_iconst (v := 1) hx hb dX3_isOwner_9 (by decide) ?_
      refine lv_goto (tgt := 14) hx hb dX3_isOwner_10 (by decide) ?_
      exact mt_rz S hr hk rfl hW hS (by rw [c_X3_isOwner, if_neg c_1, if_neg c_2]) (Nat.le_of_ble_eq_true rfl) (Nat.le_of_ble_eq_true rfl) dX3_isOwner_14
def c_X3_isThing (x : Int32) : Int32 := if x = 1 then 1 else (if x = 2 then 1 else 0)
set_option maxRecDepth 100000 in
set_option maxHeartbeats 4000000 in
theorem k_X3_isThing (l : Launch) (hlt : l.stackTraces = false) (g : mt_G) (z : Nat) (ad : Nat → Nat) (lc mc bc : Nat) (N G : Nat → Nat → Int32) (o : Nat → Int64) (d : mt_D) (h6 : lc ≤ 6) (h8 : mc ≤ 8) (hb6 : bc ≤ 6) (x : Int32)  : mt_K l g z yX3_isThing cX3_isThing 1 (some .boolean) 0 0 0 0 [.int x] (mt_wc g ad lc mc bc N G o d) ad (.inr (some (.int (c_X3_isThing x)))) (mt_wc g ad lc mc bc N G o d) ad := by
  refine mt_ofW (by decide +kernel) (Nat.le_of_ble_eq_true rfl) ?_
  intro p e s m args below meth c S hr9 hk hnm hout hC hW hS ls hl
  have hr := hr9
  have hx := S.1
  have hb := S.2.1
  have hl : lv_has ls 1 [(0, .int (x))] := hl
  refine lv_iload_n hx hb dX3_isThing_0 rfl (lv_at hl 0 rfl) ?_
  refine lv_iconst (v := 1) hx hb dX3_isThing_1 (by decide) ?_
  refine lv_icmp_eq (tgt := 10) hx hb dX3_isThing_2 (by decide) (fun c_1 => ?_) (fun c_1 => ?_)
  · refine lv_iconst (v := 1) hx hb dX3_isThing_10 (by decide) ?_
    refine lv_goto (tgt := 15) hx hb dX3_isThing_11 (by decide) ?_
    exact mt_rz S hr hk rfl hW hS (by rw [c_X3_isThing, if_pos c_1]) (Nat.le_of_ble_eq_true rfl) (Nat.le_of_ble_eq_true rfl) dX3_isThing_15
  · refine lv_iload_n hx hb dX3_isThing_5 rfl (lv_at hl 0 rfl) ?_
    refine lv_iconst (v := 2) hx hb dX3_isThing_6 (by decide) ?_
    refine lv_icmp_ne (tgt := 14) hx hb dX3_isThing_7 (by decide) (fun c_2 => ?_) (fun c_2 => ?_)
    · refine lv_iconst (v := 0) hx hb dX3_isThing_14 (by decide) ?_
      exact mt_rz S hr hk rfl hW hS (by rw [c_X3_isThing, if_neg c_1, if_neg c_2]) (Nat.le_of_ble_eq_true rfl) (Nat.le_of_ble_eq_true rfl) dX3_isThing_15
    · refine lv_iconst (v := 1) hx hb dX3_isThing_10 (by decide) ?_
      refine lv_goto (tgt := 15) hx hb dX3_isThing_11 (by decide) ?_
      exact mt_rz S hr hk rfl hW hS (by rw [c_X3_isThing, if_neg c_1, if_pos c_2]) (Nat.le_of_ble_eq_true rfl) (Nat.le_of_ble_eq_true rfl) dX3_isThing_15
theorem c_isPlace_in {x : Int32} (h : ¬ c_X3_isPlace x = 0) : vp_in x 341 := by
  unfold c_X3_isPlace at h
  by_cases h1 : x < 0
  · rw [if_pos h1] at h; exact absurd rfl h
  · rw [if_neg h1] at h
    by_cases h2 : 341 ≤ x
    · rw [if_pos h2] at h; exact absurd rfl h
    · exact vin (n := 341) h1 h2
theorem c_isOwner_in {x : Int32} (h : ¬ c_X3_isOwner x = 0) : vp_in x 4 := by
  unfold c_X3_isOwner at h
  by_cases h1 : x < 0
  · rw [if_pos h1] at h; exact absurd rfl h
  · rw [if_neg h1] at h
    by_cases h2 : 4 ≤ x
    · rw [if_pos h2] at h; exact absurd rfl h
    · exact vin (n := 4) h1 h2
def c_X1_kindAt (lc mc bc : Nat) (N G : Nat → Nat → Int32) (i : Nat) (x : Int32) : Int32 := if x < 0 then 0 else (if 341 ≤ x then 0 else (G (110 + i) x.toNatClampNeg))
set_option maxRecDepth 100000 in
set_option maxHeartbeats 4000000 in
theorem k_X1_kindAt (l : Launch) (hlt : l.stackTraces = false) (g : mt_G) (z : Nat) (ad : Nat → Nat) (lc mc bc : Nat) (N G : Nat → Nat → Int32) (o : Nat → Int64) (d : mt_D) (h6 : lc ≤ 6) (h8 : mc ≤ 8) (hb6 : bc ≤ 6) (i : Nat) (x : Int32) (hi : i < lc) : mt_K l g z yX1_kindAt cX1_kindAt 2 (some .int) 0 0 0 0 [.ref (ad (100 + i)), .int x] (mt_wc g ad lc mc bc N G o d) ad (.inr (some (.int (c_X1_kindAt lc mc bc N G i x)))) (mt_wc g ad lc mc bc N G o d) ad := by
  refine mt_ofW (by decide +kernel) (Nat.le_of_ble_eq_true rfl) ?_
  intro p e s m args below meth c S hr9 hk hnm hout hC hW hS ls hl
  have hr := hr9
  have hx := S.1
  have hb := S.2.1
  have hl : lv_has ls 2 [(0, .ref (ad (100 + i))), (1, .int (x))] := hl
  refine lv_iload_n hx hb dX1_kindAt_0 rfl (lv_at hl 1 rfl) ?_
  refine lv_if_lt (tgt := 22) hx hb dX1_kindAt_1 (by decide) (fun c_1 => ?_) (fun c_1 => ?_)
  · refine lv_iconst (v := 0) hx hb dX1_kindAt_22 (by decide) ?_
    exact mt_ri S hr hk hW hS (by rw [c_X1_kindAt, if_pos c_1]) (Nat.le_of_ble_eq_true rfl) (Nat.le_of_ble_eq_true rfl) dX1_kindAt_23
  · refine lv_iload_n hx hb dX1_kindAt_4 rfl (lv_at hl 1 rfl) ?_
    refine lv_aload_n hx hb dX1_kindAt_5 rfl (lv_at hl 0 rfl) ?_
    refine mt_get S iw_X1 hC hW (wc_lay h6 hi) rfl 0 (by decide) mw_fl_X1_9 rfl rfl dX1_kindAt_6 ?_
    refine wk_alen (t := 0) S hC hW (ar_k h6 hi) rfl dX1_kindAt_9 ?_
    refine mt_te (y := 341) rfl ?_
    refine lv_icmp_ge (tgt := 22) hx hb dX1_kindAt_10 (by decide) (fun c_2 => ?_) (fun c_2 => ?_)
    · refine lv_iconst (v := 0) hx hb dX1_kindAt_22 (by decide) ?_
      exact mt_ri S hr hk hW hS (by rw [c_X1_kindAt, if_neg c_1, if_pos c_2]) (Nat.le_of_ble_eq_true rfl) (Nat.le_of_ble_eq_true rfl) dX1_kindAt_23
    · refine lv_aload_n hx hb dX1_kindAt_13 rfl (lv_at hl 0 rfl) ?_
      refine mt_get S iw_X1 hC hW (wc_lay h6 hi) rfl 0 (by decide) mw_fl_X1_9 rfl rfl dX1_kindAt_14 ?_
      refine lv_iload_n hx hb dX1_kindAt_17 rfl (lv_at hl 1 rfl) ?_
      refine wk_iald S hC hW (ar_k h6 hi) (vin (n := 341) c_1 c_2) dX1_kindAt_18 ?_
      refine lv_goto (tgt := 23) hx hb dX1_kindAt_19 (by decide) ?_
      exact mt_ri S hr hk hW hS (by rw [c_X1_kindAt, if_neg c_1, if_neg c_2]) (Nat.le_of_ble_eq_true rfl) (Nat.le_of_ble_eq_true rfl) dX1_kindAt_23
def c_X1_ownerAt (lc mc bc : Nat) (N G : Nat → Nat → Int32) (i : Nat) (x : Int32) : Int32 := if x < 0 then 0 else (if 341 ≤ x then 0 else (G (120 + i) x.toNatClampNeg))
set_option maxRecDepth 100000 in
set_option maxHeartbeats 4000000 in
theorem k_X1_ownerAt (l : Launch) (hlt : l.stackTraces = false) (g : mt_G) (z : Nat) (ad : Nat → Nat) (lc mc bc : Nat) (N G : Nat → Nat → Int32) (o : Nat → Int64) (d : mt_D) (h6 : lc ≤ 6) (h8 : mc ≤ 8) (hb6 : bc ≤ 6) (i : Nat) (x : Int32) (hi : i < lc) : mt_K l g z yX1_ownerAt cX1_ownerAt 2 (some .int) 0 0 0 0 [.ref (ad (100 + i)), .int x] (mt_wc g ad lc mc bc N G o d) ad (.inr (some (.int (c_X1_ownerAt lc mc bc N G i x)))) (mt_wc g ad lc mc bc N G o d) ad := by
  refine mt_ofW (by decide +kernel) (Nat.le_of_ble_eq_true rfl) ?_
  intro p e s m args below meth c S hr9 hk hnm hout hC hW hS ls hl
  have hr := hr9
  have hx := S.1
  have hb := S.2.1
  have hl : lv_has ls 2 [(0, .ref (ad (100 + i))), (1, .int (x))] := hl
  refine lv_iload_n hx hb dX1_ownerAt_0 rfl (lv_at hl 1 rfl) ?_
  refine lv_if_lt (tgt := 22) hx hb dX1_ownerAt_1 (by decide) (fun c_1 => ?_) (fun c_1 => ?_)
  · refine lv_iconst (v := 0) hx hb dX1_ownerAt_22 (by decide) ?_
    exact mt_ri S hr hk hW hS (by rw [c_X1_ownerAt, if_pos c_1]) (Nat.le_of_ble_eq_true rfl) (Nat.le_of_ble_eq_true rfl) dX1_ownerAt_23
  · refine lv_iload_n hx hb dX1_ownerAt_4 rfl (lv_at hl 1 rfl) ?_
    refine lv_aload_n hx hb dX1_ownerAt_5 rfl (lv_at hl 0 rfl) ?_
    refine mt_get S iw_X1 hC hW (wc_lay h6 hi) rfl 1 (by decide) mw_fl_X1_15 rfl rfl dX1_ownerAt_6 ?_
    refine wk_alen (t := 0) S hC hW (ar_o h6 hi) rfl dX1_ownerAt_9 ?_
    refine mt_te (y := 341) rfl ?_
    refine lv_icmp_ge (tgt := 22) hx hb dX1_ownerAt_10 (by decide) (fun c_2 => ?_) (fun c_2 => ?_)
    · refine lv_iconst (v := 0) hx hb dX1_ownerAt_22 (by decide) ?_
      exact mt_ri S hr hk hW hS (by rw [c_X1_ownerAt, if_neg c_1, if_pos c_2]) (Nat.le_of_ble_eq_true rfl) (Nat.le_of_ble_eq_true rfl) dX1_ownerAt_23
    · refine lv_aload_n hx hb dX1_ownerAt_13 rfl (lv_at hl 0 rfl) ?_
      refine mt_get S iw_X1 hC hW (wc_lay h6 hi) rfl 1 (by decide) mw_fl_X1_15 rfl rfl dX1_ownerAt_14 ?_
      refine lv_iload_n hx hb dX1_ownerAt_17 rfl (lv_at hl 1 rfl) ?_
      refine wk_iald S hC hW (ar_o h6 hi) (vin (n := 341) c_1 c_2) dX1_ownerAt_18 ?_
      refine lv_goto (tgt := 23) hx hb dX1_ownerAt_19 (by decide) ?_
      exact mt_ri S hr hk hW hS (by rw [c_X1_ownerAt, if_neg c_1, if_neg c_2]) (Nat.le_of_ble_eq_true rfl) (Nat.le_of_ble_eq_true rfl) dX1_ownerAt_23
def c_X1_valueAt (lc mc bc : Nat) (N G : Nat → Nat → Int32) (i : Nat) (x : Int32) : Int32 := if x < 0 then 0 else (if 341 ≤ x then 0 else (G (130 + i) x.toNatClampNeg))
set_option maxRecDepth 100000 in
set_option maxHeartbeats 4000000 in
theorem k_X1_valueAt (l : Launch) (hlt : l.stackTraces = false) (g : mt_G) (z : Nat) (ad : Nat → Nat) (lc mc bc : Nat) (N G : Nat → Nat → Int32) (o : Nat → Int64) (d : mt_D) (h6 : lc ≤ 6) (h8 : mc ≤ 8) (hb6 : bc ≤ 6) (i : Nat) (x : Int32) (hi : i < lc) : mt_K l g z yX1_valueAt cX1_valueAt 2 (some .int) 0 0 0 0 [.ref (ad (100 + i)), .int x] (mt_wc g ad lc mc bc N G o d) ad (.inr (some (.int (c_X1_valueAt lc mc bc N G i x)))) (mt_wc g ad lc mc bc N G o d) ad := by
  refine mt_ofW (by decide +kernel) (Nat.le_of_ble_eq_true rfl) ?_
  intro p e s m args below meth c S hr9 hk hnm hout hC hW hS ls hl
  have hr := hr9
  have hx := S.1
  have hb := S.2.1
  have hl : lv_has ls 2 [(0, .ref (ad (100 + i))), (1, .int (x))] := hl
  refine lv_iload_n hx hb dX1_valueAt_0 rfl (lv_at hl 1 rfl) ?_
  refine lv_if_lt (tgt := 22) hx hb dX1_valueAt_1 (by decide) (fun c_1 => ?_) (fun c_1 => ?_)
  · refine lv_iconst (v := 0) hx hb dX1_valueAt_22 (by decide) ?_
    exact mt_ri S hr hk hW hS (by rw [c_X1_valueAt, if_pos c_1]) (Nat.le_of_ble_eq_true rfl) (Nat.le_of_ble_eq_true rfl) dX1_valueAt_23
  · refine lv_iload_n hx hb dX1_valueAt_4 rfl (lv_at hl 1 rfl) ?_
    refine lv_aload_n hx hb dX1_valueAt_5 rfl (lv_at hl 0 rfl) ?_
    refine mt_get S iw_X1 hC hW (wc_lay h6 hi) rfl 2 (by decide) mw_fl_X1_18 rfl rfl dX1_valueAt_6 ?_
    refine wk_alen (t := 0) S hC hW (ar_v h6 hi) rfl dX1_valueAt_9 ?_
    refine mt_te (y := 341) rfl ?_
    refine lv_icmp_ge (tgt := 22) hx hb dX1_valueAt_10 (by decide) (fun c_2 => ?_) (fun c_2 => ?_)
    · refine lv_iconst (v := 0) hx hb dX1_valueAt_22 (by decide) ?_
      exact mt_ri S hr hk hW hS (by rw [c_X1_valueAt, if_neg c_1, if_pos c_2]) (Nat.le_of_ble_eq_true rfl) (Nat.le_of_ble_eq_true rfl) dX1_valueAt_23
    · refine lv_aload_n hx hb dX1_valueAt_13 rfl (lv_at hl 0 rfl) ?_
      refine mt_get S iw_X1 hC hW (wc_lay h6 hi) rfl 2 (by decide) mw_fl_X1_18 rfl rfl dX1_valueAt_14 ?_
      refine lv_iload_n hx hb dX1_valueAt_17 rfl (lv_at hl 1 rfl) ?_
      refine wk_iald S hC hW (ar_v h6 hi) (vin (n := 341) c_1 c_2) dX1_valueAt_18 ?_
      refine lv_goto (tgt := 23) hx hb dX1_valueAt_19 (by decide) ?_
      exact mt_ri S hr hk hW hS (by rw [c_X1_valueAt, if_neg c_1, if_neg c_2]) (Nat.le_of_ble_eq_true rfl) (Nat.le_of_ble_eq_true rfl) dX1_valueAt_23
def c_X1_fileSizeAt (lc mc bc : Nat) (N G : Nat → Nat → Int32) (i : Nat) (x : Int32) : Int32 := if (c_X1_kindAt lc mc bc N G i x) = 1 then (c_X1_valueAt lc mc bc N G i x) else (-1)
set_option maxRecDepth 100000 in
set_option maxHeartbeats 4000000 in
theorem k_X1_fileSizeAt (l : Launch) (hlt : l.stackTraces = false) (g : mt_G) (z : Nat) (ad : Nat → Nat) (lc mc bc : Nat) (N G : Nat → Nat → Int32) (o : Nat → Int64) (d : mt_D) (h6 : lc ≤ 6) (h8 : mc ≤ 8) (hb6 : bc ≤ 6) (i : Nat) (x : Int32) (hi : i < lc) : mt_K l g z yX1_fileSizeAt cX1_fileSizeAt 2 (some .int) 1 21 0 0 [.ref (ad (100 + i)), .int x] (mt_wc g ad lc mc bc N G o d) ad (.inr (some (.int (c_X1_fileSizeAt lc mc bc N G i x)))) (mt_wc g ad lc mc bc N G o d) ad := by
  refine mt_ofW (by decide +kernel) (Nat.le_of_ble_eq_true rfl) ?_
  intro p e s m args below meth c S hr9 hk hnm hout hC hW hS ls hl
  have hr := hr9
  have hx := S.1
  have hb := S.2.1
  have hl : lv_has ls 2 [(0, .ref (ad (100 + i))), (1, .int (x))] := hl
  refine lv_aload_n hx hb dX1_fileSizeAt_0 rfl (lv_at hl 0 rfl) ?_
  refine lv_iload_n hx hb dX1_fileSizeAt_1 rfl (lv_at hl 1 rfl) ?_
  refine mt_cV1 (As := [.int (x)]) (rest := []) S pv_X1_kindAt mw_ml_X1_25 (k_X1_kindAt l hlt g z ad lc mc bc N G o d h6 h8 hb6 i x hi) hC hW hS (wc_lay h6 hi) rfl rfl rfl hl.1 rfl (Nat.le_of_ble_eq_true rfl) dX1_fileSizeAt_2 ⟨(Nat.le_of_ble_eq_true rfl), (Nat.le_of_ble_eq_true rfl)⟩ ⟨(Nat.le_of_ble_eq_true rfl), (Nat.le_of_ble_eq_true rfl)⟩ rfl (fun H locs hW hS => ?_)
  refine lv_iconst (v := 1) hx hb dX1_fileSizeAt_5 (by decide) ?_
  refine lv_icmp_ne (tgt := 17) hx hb dX1_fileSizeAt_6 (by decide) (fun c_1 => ?_) (fun c_1 => ?_)
  · refine lv_iconst (v := -1) hx hb dX1_fileSizeAt_17 (by decide) ?_
    exact mt_ri S hr hk hW hS (by rw [c_X1_fileSizeAt, if_neg c_1]) (Nat.le_of_ble_eq_true rfl) (Nat.le_of_ble_eq_true rfl) dX1_fileSizeAt_18
  · refine lv_aload_n hx hb dX1_fileSizeAt_9 rfl (lv_at hl 0 rfl) ?_
    refine lv_iload_n hx hb dX1_fileSizeAt_10 rfl (lv_at hl 1 rfl) ?_
    refine mt_cV1 (As := [.int (x)]) (rest := []) S pv_X1_valueAt mw_ml_X1_29 (k_X1_valueAt l hlt g z ad lc mc bc N G o d h6 h8 hb6 i x hi) hC hW hS (wc_lay h6 hi) rfl rfl rfl hl.1 rfl (Nat.le_of_ble_eq_true rfl) dX1_fileSizeAt_11 ⟨(Nat.le_of_ble_eq_true rfl), (Nat.le_of_ble_eq_true rfl)⟩ ⟨(Nat.le_of_ble_eq_true rfl), (Nat.le_of_ble_eq_true rfl)⟩ rfl (fun H locs hW hS => ?_)
    refine lv_goto (tgt := 18) hx hb dX1_fileSizeAt_14 (by decide) ?_
    exact mt_ri S hr hk hW hS (by rw [c_X1_fileSizeAt, if_pos c_1]) (Nat.le_of_ble_eq_true rfl) (Nat.le_of_ble_eq_true rfl) dX1_fileSizeAt_18
def c_X1_bytesAt (lc mc bc : Nat) (N G : Nat → Nat → Int32) (i : Nat) (x : Int32) : Int32 := if (c_X1_kindAt lc mc bc N G i x) = 1 then (c_X1_valueAt lc mc bc N G i x) else 0
set_option maxRecDepth 100000 in
set_option maxHeartbeats 4000000 in
theorem k_X1_bytesAt (l : Launch) (hlt : l.stackTraces = false) (g : mt_G) (z : Nat) (ad : Nat → Nat) (lc mc bc : Nat) (N G : Nat → Nat → Int32) (o : Nat → Int64) (d : mt_D) (h6 : lc ≤ 6) (h8 : mc ≤ 8) (hb6 : bc ≤ 6) (i : Nat) (x : Int32) (hi : i < lc) : mt_K l g z yX1_bytesAt cX1_bytesAt 2 (some .int) 1 21 0 0 [.ref (ad (100 + i)), .int x] (mt_wc g ad lc mc bc N G o d) ad (.inr (some (.int (c_X1_bytesAt lc mc bc N G i x)))) (mt_wc g ad lc mc bc N G o d) ad := by
  refine mt_ofW (by decide +kernel) (Nat.le_of_ble_eq_true rfl) ?_
  intro p e s m args below meth c S hr9 hk hnm hout hC hW hS ls hl
  have hr := hr9
  have hx := S.1
  have hb := S.2.1
  have hl : lv_has ls 2 [(0, .ref (ad (100 + i))), (1, .int (x))] := hl
  refine lv_aload_n hx hb dX1_bytesAt_0 rfl (lv_at hl 0 rfl) ?_
  refine lv_iload_n hx hb dX1_bytesAt_1 rfl (lv_at hl 1 rfl) ?_
  refine mt_cV1 (As := [.int (x)]) (rest := []) S pv_X1_kindAt mw_ml_X1_25 (k_X1_kindAt l hlt g z ad lc mc bc N G o d h6 h8 hb6 i x hi) hC hW hS (wc_lay h6 hi) rfl rfl rfl hl.1 rfl (Nat.le_of_ble_eq_true rfl) dX1_bytesAt_2 ⟨(Nat.le_of_ble_eq_true rfl), (Nat.le_of_ble_eq_true rfl)⟩ ⟨(Nat.le_of_ble_eq_true rfl), (Nat.le_of_ble_eq_true rfl)⟩ rfl (fun H locs hW hS => ?_)
  refine lv_iconst (v := 1) hx hb dX1_bytesAt_5 (by decide) ?_
  refine lv_icmp_ne (tgt := 17) hx hb dX1_bytesAt_6 (by decide) (fun c_1 => ?_) (fun c_1 => ?_)
  · refine lv_iconst (v := 0) hx hb dX1_bytesAt_17 (by decide) ?_
    exact mt_ri S hr hk hW hS (by rw [c_X1_bytesAt, if_neg c_1]) (Nat.le_of_ble_eq_true rfl) (Nat.le_of_ble_eq_true rfl) dX1_bytesAt_18
  · refine lv_aload_n hx hb dX1_bytesAt_9 rfl (lv_at hl 0 rfl) ?_
    refine lv_iload_n hx hb dX1_bytesAt_10 rfl (lv_at hl 1 rfl) ?_
    refine mt_cV1 (As := [.int (x)]) (rest := []) S pv_X1_valueAt mw_ml_X1_29 (k_X1_valueAt l hlt g z ad lc mc bc N G o d h6 h8 hb6 i x hi) hC hW hS (wc_lay h6 hi) rfl rfl rfl hl.1 rfl (Nat.le_of_ble_eq_true rfl) dX1_bytesAt_11 ⟨(Nat.le_of_ble_eq_true rfl), (Nat.le_of_ble_eq_true rfl)⟩ ⟨(Nat.le_of_ble_eq_true rfl), (Nat.le_of_ble_eq_true rfl)⟩ rfl (fun H locs hW hS => ?_)
    refine lv_goto (tgt := 18) hx hb dX1_bytesAt_14 (by decide) ?_
    exact mt_ri S hr hk hW hS (by rw [c_X1_bytesAt, if_pos c_1]) (Nat.le_of_ble_eq_true rfl) (Nat.le_of_ble_eq_true rfl) dX1_bytesAt_18
def c_X1_bytesOfOwnerAt (lc mc bc : Nat) (N G : Nat → Nat → Int32) (i : Nat) (w : Int32) (x : Int32) : Int32 := if (c_X1_ownerAt lc mc bc N G i x) = w then (c_X1_bytesAt lc mc bc N G i x) else 0
set_option maxRecDepth 100000 in
set_option maxHeartbeats 4000000 in
theorem k_X1_bytesOfOwnerAt (l : Launch) (hlt : l.stackTraces = false) (g : mt_G) (z : Nat) (ad : Nat → Nat) (lc mc bc : Nat) (N G : Nat → Nat → Int32) (o : Nat → Int64) (d : mt_D) (h6 : lc ≤ 6) (h8 : mc ≤ 8) (hb6 : bc ≤ 6) (i : Nat) (w : Int32) (x : Int32) (hi : i < lc) : mt_K l g z yX1_bytesOfOwnerAt cX1_bytesOfOwnerAt 3 (some .int) 2 42 0 0 [.ref (ad (100 + i)), .int w, .int x] (mt_wc g ad lc mc bc N G o d) ad (.inr (some (.int (c_X1_bytesOfOwnerAt lc mc bc N G i w x)))) (mt_wc g ad lc mc bc N G o d) ad := by
  refine mt_ofW (by decide +kernel) (Nat.le_of_ble_eq_true rfl) ?_
  intro p e s m args below meth c S hr9 hk hnm hout hC hW hS ls hl
  have hr := hr9
  have hx := S.1
  have hb := S.2.1
  have hl : lv_has ls 3 [(0, .ref (ad (100 + i))), (1, .int (w)), (2, .int (x))] := hl
  refine lv_aload_n hx hb dX1_bytesOfOwnerAt_0 rfl (lv_at hl 0 rfl) ?_
  refine lv_iload_n hx hb dX1_bytesOfOwnerAt_1 rfl (lv_at hl 2 rfl) ?_
  refine mt_cV1 (As := [.int (x)]) (rest := []) S pv_X1_ownerAt mw_ml_X1_32 (k_X1_ownerAt l hlt g z ad lc mc bc N G o d h6 h8 hb6 i x hi) hC hW hS (wc_lay h6 hi) rfl rfl rfl hl.1 rfl (Nat.le_of_ble_eq_true rfl) dX1_bytesOfOwnerAt_2 ⟨(Nat.le_of_ble_eq_true rfl), (Nat.le_of_ble_eq_true rfl)⟩ ⟨(Nat.le_of_ble_eq_true rfl), (Nat.le_of_ble_eq_true rfl)⟩ rfl (fun H locs hW hS => ?_)
  refine lv_iload_n hx hb dX1_bytesOfOwnerAt_5 rfl (lv_at hl 1 rfl) ?_
  refine lv_icmp_ne (tgt := 17) hx hb dX1_bytesOfOwnerAt_6 (by decide) (fun c_1 => ?_) (fun c_1 => ?_)
  · refine lv_iconst (v := 0) hx hb dX1_bytesOfOwnerAt_17 (by decide) ?_
    exact mt_ri S hr hk hW hS (by rw [c_X1_bytesOfOwnerAt, if_neg c_1]) (Nat.le_of_ble_eq_true rfl) (Nat.le_of_ble_eq_true rfl) dX1_bytesOfOwnerAt_18
  · refine lv_aload_n hx hb dX1_bytesOfOwnerAt_9 rfl (lv_at hl 0 rfl) ?_
    refine lv_iload_n hx hb dX1_bytesOfOwnerAt_10 rfl (lv_at hl 2 rfl) ?_
    refine mt_cV1 (As := [.int (x)]) (rest := []) S pv_X1_bytesAt mw_ml_X1_35 (k_X1_bytesAt l hlt g z ad lc mc bc N G o d h6 h8 hb6 i x hi) hC hW hS (wc_lay h6 hi) rfl rfl rfl hl.1 rfl (Nat.le_of_ble_eq_true rfl) dX1_bytesOfOwnerAt_11 ⟨(Nat.le_of_ble_eq_true rfl), (Nat.le_of_ble_eq_true rfl)⟩ ⟨(Nat.le_of_ble_eq_true rfl), (Nat.le_of_ble_eq_true rfl)⟩ rfl (fun H locs hW hS => ?_)
    refine lv_goto (tgt := 18) hx hb dX1_bytesOfOwnerAt_14 (by decide) ?_
    exact mt_ri S hr hk hW hS (by rw [c_X1_bytesOfOwnerAt, if_pos c_1]) (Nat.le_of_ble_eq_true rfl) (Nat.le_of_ble_eq_true rfl) dX1_bytesOfOwnerAt_18
def c_X1_put_G (lc mc bc : Nat) (N G : Nat → Nat → Int32) (i : Nat) (x : Int32) (k : Int32) (w : Int32) (v : Int32) : Nat → Nat → Int32 := if (c_X3_isPlace x) = 0 then G else (mt_gu (mt_gu (mt_gu G (110 + i) x.toNatClampNeg k) (120 + i) x.toNatClampNeg w) (130 + i) x.toNatClampNeg v)
set_option maxRecDepth 100000 in
set_option maxHeartbeats 4000000 in
theorem k_X1_put (l : Launch) (hlt : l.stackTraces = false) (g : mt_G) (z : Nat) (ad : Nat → Nat) (lc mc bc : Nat) (N G : Nat → Nat → Int32) (o : Nat → Int64) (d : mt_D) (h6 : lc ≤ 6) (h8 : mc ≤ 8) (hb6 : bc ≤ 6) (i : Nat) (x : Int32) (k : Int32) (w : Int32) (v : Int32) (hi : i < lc) : mt_K l g z yX1_put cX1_put 5 none 1 20 0 0 [.ref (ad (100 + i)), .int x, .int k, .int w, .int v] (mt_wc g ad lc mc bc N G o d) ad (.inr none) (mt_wc g ad lc mc bc N (c_X1_put_G lc mc bc N G i x k w v) o d) ad := by
  refine mt_ofW (by decide +kernel) (Nat.le_of_ble_eq_true rfl) ?_
  intro p e s m args below meth c S hr9 hk hnm hout hC hW hS ls hl
  have hr := hr9
  have hx := S.1
  have hb := S.2.1
  have hl : lv_has ls 5 [(0, .ref (ad (100 + i))), (1, .int (x)), (2, .int (k)), (3, .int (w)), (4, .int (v))] := hl
  refine lv_iload_n hx hb dX1_put_0 rfl (lv_at hl 1 rfl) ?_
  refine mt_cN1 (As := [.int (x)]) (rest := []) S ps_X3_isPlace mw_mn_X1_38 (k_X3_isPlace l hlt g z ad lc mc bc N G o d h6 h8 hb6 x) hC hW hS rfl hl.1 rfl (Nat.le_of_ble_eq_true rfl) dX1_put_1 ⟨(Nat.le_of_ble_eq_true rfl), (Nat.le_of_ble_eq_true rfl)⟩ ⟨(Nat.le_of_ble_eq_true rfl), (Nat.le_of_ble_eq_true rfl)⟩ (fun H locs hW hS => ?_)
  refine lv_if_eq (tgt := 29) hx hb dX1_put_4 (by decide) (fun c_1 => ?_) (fun c_1 => ?_)
  · have hW := hW.to (w1 := mt_wc g ad lc mc bc N (c_X1_put_G lc mc bc N G i x k w v) o d) (by rw [c_X1_put_G, if_pos c_1])
    exact mt_rv S hr hk hW hS rfl (Nat.le_of_ble_eq_true rfl) (Nat.le_of_ble_eq_true rfl) dX1_put_29
  · refine lv_aload_n hx hb dX1_put_7 rfl (lv_at hl 0 rfl) ?_
    refine mt_get S iw_X1 hC hW (wc_lay h6 hi) rfl 0 (by decide) mw_fl_X1_9 rfl rfl dX1_put_8 ?_
    refine lv_iload_n hx hb dX1_put_11 rfl (lv_at hl 1 rfl) ?_
    refine lv_iload_n hx hb dX1_put_12 rfl (lv_at hl 2 rfl) ?_
    refine wk_iast S hC hW hS (ar_k h6 hi) (c_isPlace_in c_1) dX1_put_13 (fun H locs hW hS => ?_)
    refine lv_aload_n hx hb dX1_put_14 rfl (lv_at hl 0 rfl) ?_
    refine mt_get S iw_X1 hC hW (wc_lay h6 hi) rfl 1 (by decide) mw_fl_X1_15 rfl rfl dX1_put_15 ?_
    refine lv_iload_n hx hb dX1_put_18 rfl (lv_at hl 1 rfl) ?_
    refine lv_iload_n hx hb dX1_put_19 rfl (lv_at hl 3 rfl) ?_
    refine wk_iast S hC hW hS (ar_o h6 hi) (c_isPlace_in c_1) dX1_put_20 (fun H locs hW hS => ?_)
    refine lv_aload_n hx hb dX1_put_21 rfl (lv_at hl 0 rfl) ?_
    refine mt_get S iw_X1 hC hW (wc_lay h6 hi) rfl 2 (by decide) mw_fl_X1_18 rfl rfl dX1_put_22 ?_
    refine lv_iload_n hx hb dX1_put_25 rfl (lv_at hl 1 rfl) ?_
    refine lv_iload hx hb dX1_put_26 (lv_at hl 4 rfl) ?_
    refine wk_iast S hC hW hS (ar_v h6 hi) (c_isPlace_in c_1) dX1_put_28 (fun H locs hW hS => ?_)
    have hW := hW.to (w1 := mt_wc g ad lc mc bc N (c_X1_put_G lc mc bc N G i x k w v) o d) (by rw [c_X1_put_G, if_neg c_1])
    exact mt_rv S hr hk hW hS rfl (Nat.le_of_ble_eq_true rfl) (Nat.le_of_ble_eq_true rfl) dX1_put_29
def c_X1_bytesNotYetCounted (lc mc bc : Nat) (N G : Nat → Nat → Int32) (i : Nat) (x : Int32) : Int32 := if (c_X3_isPlace x) = 0 then 0 else (if (G (140 + i) x.toNatClampNeg) = 0 then (c_X1_bytesAt lc mc bc N (mt_gu G (140 + i) x.toNatClampNeg 1) i x) else 0)
def c_X1_bytesNotYetCounted_G (lc mc bc : Nat) (N G : Nat → Nat → Int32) (i : Nat) (x : Int32) : Nat → Nat → Int32 := if (c_X3_isPlace x) = 0 then G else (if (G (140 + i) x.toNatClampNeg) = 0 then (mt_gu G (140 + i) x.toNatClampNeg 1) else G)
set_option maxRecDepth 100000 in
set_option maxHeartbeats 4000000 in
theorem k_X1_bytesNotYetCounted (l : Launch) (hlt : l.stackTraces = false) (g : mt_G) (z : Nat) (ad : Nat → Nat) (lc mc bc : Nat) (N G : Nat → Nat → Int32) (o : Nat → Int64) (d : mt_D) (h6 : lc ≤ 6) (h8 : mc ≤ 8) (hb6 : bc ≤ 6) (i : Nat) (x : Int32) (hi : i < lc) : mt_K l g z yX1_bytesNotYetCounted cX1_bytesNotYetCounted 2 (some .int) 2 42 0 0 [.ref (ad (100 + i)), .int x] (mt_wc g ad lc mc bc N G o d) ad (.inr (some (.int (c_X1_bytesNotYetCounted lc mc bc N G i x)))) (mt_wc g ad lc mc bc N (c_X1_bytesNotYetCounted_G lc mc bc N G i x) o d) ad := by
  refine mt_ofW (by decide +kernel) (Nat.le_of_ble_eq_true rfl) ?_
  intro p e s m args below meth c S hr9 hk hnm hout hC hW hS ls hl
  have hr := hr9
  have hx := S.1
  have hb := S.2.1
  have hl : lv_has ls 2 [(0, .ref (ad (100 + i))), (1, .int (x))] := hl
  refine lv_iload_n hx hb dX1_bytesNotYetCounted_0 rfl (lv_at hl 1 rfl) ?_
  refine mt_cN1 (As := [.int (x)]) (rest := []) S ps_X3_isPlace mw_mn_X1_38 (k_X3_isPlace l hlt g z ad lc mc bc N G o d h6 h8 hb6 x) hC hW hS rfl hl.1 rfl (Nat.le_of_ble_eq_true rfl) dX1_bytesNotYetCounted_1 ⟨(Nat.le_of_ble_eq_true rfl), (Nat.le_of_ble_eq_true rfl)⟩ ⟨(Nat.le_of_ble_eq_true rfl), (Nat.le_of_ble_eq_true rfl)⟩ (fun H locs hW hS => ?_)
  refine lv_if_eq (tgt := 16) hx hb dX1_bytesNotYetCounted_4 (by decide) (fun c_1 => ?_) (fun c_1 => ?_)
  · refine lv_iconst (v := 0) hx hb dX1_bytesNotYetCounted_16 (by decide) ?_
    have hW := hW.to (w1 := mt_wc g ad lc mc bc N (c_X1_bytesNotYetCounted_G lc mc bc N G i x) o d) (by rw [c_X1_bytesNotYetCounted_G, if_pos c_1])
    exact mt_ri S hr hk hW hS (by rw [c_X1_bytesNotYetCounted, if_pos c_1]) (Nat.le_of_ble_eq_true rfl) (Nat.le_of_ble_eq_true rfl) dX1_bytesNotYetCounted_17
  · refine lv_aload_n hx hb dX1_bytesNotYetCounted_7 rfl (lv_at hl 0 rfl) ?_
    refine mt_get S iw_X1 hC hW (wc_lay h6 hi) rfl 3 (by decide) mw_fl_X1_21 rfl rfl dX1_bytesNotYetCounted_8 ?_
    refine lv_iload_n hx hb dX1_bytesNotYetCounted_11 rfl (lv_at hl 1 rfl) ?_
    refine wk_zald S hC hW (ar_c h6 hi) (c_isPlace_in c_1) dX1_bytesNotYetCounted_12 ?_
    refine lv_if_eq (tgt := 18) hx hb dX1_bytesNotYetCounted_13 (by decide) (fun c_2 => ?_) (fun c_2 => ?_)
    · refine lv_aload_n hx hb dX1_bytesNotYetCounted_18 rfl (lv_at hl 0 rfl) ?_
      refine mt_get S iw_X1 hC hW (wc_lay h6 hi) rfl 3 (by decide) mw_fl_X1_21 rfl rfl dX1_bytesNotYetCounted_19 ?_
      refine lv_iload_n hx hb dX1_bytesNotYetCounted_22 rfl (lv_at hl 1 rfl) ?_
      refine lv_iconst (v := 1) hx hb dX1_bytesNotYetCounted_23 (by decide) ?_
      refine wk_zast S hC hW hS (ar_c h6 hi) (c_isPlace_in c_1) rfl dX1_bytesNotYetCounted_24 (fun H locs hW hS => ?_)
      refine lv_aload_n hx hb dX1_bytesNotYetCounted_25 rfl (lv_at hl 0 rfl) ?_
      refine lv_iload_n hx hb dX1_bytesNotYetCounted_26 rfl (lv_at hl 1 rfl) ?_
      refine mt_cV1 (As := [.int (x)]) (rest := []) S pv_X1_bytesAt mw_ml_X1_35 (k_X1_bytesAt l hlt g z ad lc mc bc N (mt_gu G (140 + i) x.toNatClampNeg 1) o d h6 h8 hb6 i x hi) hC hW hS (wc_lay h6 hi) rfl rfl rfl hl.1 rfl (Nat.le_of_ble_eq_true rfl) dX1_bytesNotYetCounted_27 ⟨(Nat.le_of_ble_eq_true rfl), (Nat.le_of_ble_eq_true rfl)⟩ ⟨(Nat.le_of_ble_eq_true rfl), (Nat.le_of_ble_eq_true rfl)⟩ rfl (fun H locs hW hS => ?_)
      have hW := hW.to (w1 := mt_wc g ad lc mc bc N (c_X1_bytesNotYetCounted_G lc mc bc N G i x) o d) (by rw [c_X1_bytesNotYetCounted_G, if_neg c_1, if_pos c_2])
      exact mt_ri S hr hk hW hS (by rw [c_X1_bytesNotYetCounted, if_neg c_1, if_pos c_2]) (Nat.le_of_ble_eq_true rfl) (Nat.le_of_ble_eq_true rfl) dX1_bytesNotYetCounted_30
    · refine lv_iconst (v := 0) hx hb dX1_bytesNotYetCounted_16 (by decide) ?_
      have hW := hW.to (w1 := mt_wc g ad lc mc bc N (c_X1_bytesNotYetCounted_G lc mc bc N G i x) o d) (by rw [c_X1_bytesNotYetCounted_G, if_neg c_1, if_neg c_2])
      exact mt_ri S hr hk hW hS (by rw [c_X1_bytesNotYetCounted, if_neg c_1, if_neg c_2]) (Nat.le_of_ble_eq_true rfl) (Nat.le_of_ble_eq_true rfl) dX1_bytesNotYetCounted_17
def c_X2_written (lc mc bc : Nat) (N G : Nat → Nat → Int32) (i : Nat) : Int32 := if (N (150 + i) 1) = (-1) then (N (150 + i) 0) else (N (150 + i) 1)
set_option maxRecDepth 100000 in
set_option maxHeartbeats 4000000 in
theorem k_X2_written (l : Launch) (hlt : l.stackTraces = false) (g : mt_G) (z : Nat) (ad : Nat → Nat) (lc mc bc : Nat) (N G : Nat → Nat → Int32) (o : Nat → Int64) (d : mt_D) (h6 : lc ≤ 6) (h8 : mc ≤ 8) (hb6 : bc ≤ 6) (i : Nat) (hi : i < mc) : mt_K l g z yX2_written cX2_written 1 (some .int) 0 0 0 0 [.ref (ad (150 + i))] (mt_wc g ad lc mc bc N G o d) ad (.inr (some (.int (c_X2_written lc mc bc N G i)))) (mt_wc g ad lc mc bc N G o d) ad := by
  refine mt_ofW (by decide +kernel) (Nat.le_of_ble_eq_true rfl) ?_
  intro p e s m args below meth c S hr9 hk hnm hout hC hW hS ls hl
  have hr := hr9
  have hx := S.1
  have hb := S.2.1
  have hl : lv_has ls 1 [(0, .ref (ad (150 + i)))] := hl
  refine lv_aload_n hx hb dX2_written_0 rfl (lv_at hl 0 rfl) ?_
  refine mt_get S iw_X2 hC hW (wc_mnt h8 hi) rfl 1 (by decide) mw_fl_X2_18 rfl rfl dX2_written_1 ?_
  refine lv_iconst (v := -1) hx hb dX2_written_4 (by decide) ?_
  refine lv_icmp_ne (tgt := 15) hx hb dX2_written_5 (by decide) (fun c_1 => ?_) (fun c_1 => ?_)
  · refine lv_aload_n hx hb dX2_written_15 rfl (lv_at hl 0 rfl) ?_
    refine mt_get S iw_X2 hC hW (wc_mnt h8 hi) rfl 1 (by decide) mw_fl_X2_18 rfl rfl dX2_written_16 ?_
    exact mt_ri S hr hk hW hS (by rw [c_X2_written, if_neg c_1]) (Nat.le_of_ble_eq_true rfl) (Nat.le_of_ble_eq_true rfl) dX2_written_19
  · refine lv_aload_n hx hb dX2_written_8 rfl (lv_at hl 0 rfl) ?_
    refine mt_get S iw_X2 hC hW (wc_mnt h8 hi) rfl 0 (by decide) mw_fl_X2_15 rfl rfl dX2_written_9 ?_
    refine lv_goto (tgt := 19) hx hb dX2_written_12 (by decide) ?_
    exact mt_ri S hr hk hW hS (by rw [c_X2_written, if_pos c_1]) (Nat.le_of_ble_eq_true rfl) (Nat.le_of_ble_eq_true rfl) dX2_written_19

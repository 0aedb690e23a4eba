def c_X1_countOf_ln (lc mc bc : Nat) (N G : Nat → Nat → Int32) (i : Nat) (x : Int32) : Nat → Int32
  | 0 => 0
  | k + 1 => if (G (110 + i) k) = x then (c_X1_countOf_ln lc mc bc N G i x k + 1) else (c_X1_countOf_ln lc mc bc N G i x k)
def c_X1_countOf (lc mc bc : Nat) (N G : Nat → Nat → Int32) (i : Nat) (x : Int32) : Int32 := c_X1_countOf_ln lc mc bc N G i x 341
set_option maxRecDepth 100000 in
set_option maxHeartbeats 4000000 in
theorem k_X1_countOf (l : Launch) (hlt : l.stackTraces = false) (g : mt_G) (z : Nat) (ad : Nat → Nat) (lc mc bc : Nat) (N G : Nat → Nat → Int32) (o : Nat → Int64) (d : mt_D) (h6 : lc ≤ 6) (h8 : mc ≤ 8) (hb6 : bc ≤ 6) (i : Nat) (x : Int32) (hi : i < lc) : mt_K l g z yX1_countOf cX1_countOf 4 (some .int) 0 0 0 0 [.ref (ad (100 + i)), .int x] (mt_wc g ad lc mc bc N G o d) ad (.inr (some (.int (c_X1_countOf lc mc bc N G i x)))) (mt_wc g ad lc mc bc N G o d) ad := by
  refine mt_ofW (by decide +kernel) (Nat.le_of_ble_eq_true rfl) ?_
  intro p e s m args below meth c S hr9 hk hnm hout hC hW hS ls hl
  have hr := hr9
  have hx := S.1
  have hb := S.2.1
  have hl : lv_has ls 4 [(0, .ref (ad (100 + i))), (1, .int (x))] := hl
  refine lv_iconst (v := 0) hx hb dX1_countOf_0 (by decide) ?_
  refine lv_istore_n (lv' := [(2, .int (0)), (0, .ref (ad (100 + i))), (1, .int (x))]) hx hb dX1_countOf_1 rfl hl (by decide) rfl (fun ls hl => ?_)
  refine lv_iconst (v := 0) hx hb dX1_countOf_2 (by decide) ?_
  refine lv_istore_n (lv' := [(3, .int (0)), (2, .int (0)), (0, .ref (ad (100 + i))), (1, .int (x))]) hx hb dX1_countOf_3 rfl hl (by decide) rfl (fun ls hl => ?_)
  have hl : lv_has ls 4 [(3, .int (nI 0)), (2, .int (c_X1_countOf_ln lc mc bc N G i x 0)), (0, .ref (ad (100 + i))), (1, .int (x))] := lv_sub hl [0, 1, 2, 3] rfl
  refine lp_up 341 (fun k => mt_wc g ad lc mc bc N G o d) (fun k => [(3, .int (nI k)), (2, .int (c_X1_countOf_ln lc mc bc N G i x k)), (0, .ref (ad (100 + i))), (1, .int (x))]) (fun _ => True) 0 (by omega) trivial hW hS hl (fun H locs ls hP hW hS hl => ?_) (fun k H locs ls hk0 hkn hP hW hS hl ih => ?_)
  · have hW : mt_W g z (mt_wc g ad lc mc bc N G o d) ad _ := hW
    have hl : lv_has ls 4 [(3, .int (nI 341)), (2, .int (c_X1_countOf_ln lc mc bc N G i x 341)), (0, .ref (ad (100 + i))), (1, .int (x))] := hl
    refine lv_iload_n hx hb dX1_countOf_4 rfl (lv_at hl 0 rfl) ?_
    refine lv_sipush (v := 341) hx hb dX1_countOf_5 (by decide) ?_
    refine lv_icmp_ge (tgt := 30) hx hb dX1_countOf_8 (by decide) (fun c_1 => ?_) (fun c_1 => absurd (nI_le (a := 341) (b := 341) (Nat.le_refl _) (by omega)) c_1)
    refine lv_iload_n hx hb dX1_countOf_30 rfl (lv_at hl 1 rfl) ?_
    exact mt_ri S hr hk hW hS (by rw [c_X1_countOf]) (Nat.le_of_ble_eq_true rfl) (Nat.le_of_ble_eq_true rfl) dX1_countOf_31
  · have hW : mt_W g z (mt_wc g ad lc mc bc N G o d) ad _ := hW
    have hl : lv_has ls 4 [(3, .int (nI k)), (2, .int (c_X1_countOf_ln lc mc bc N G i x k)), (0, .ref (ad (100 + i))), (1, .int (x))] := hl
    refine lv_iload_n hx hb dX1_countOf_4 rfl (lv_at hl 0 rfl) ?_
    refine lv_sipush (v := 341) hx hb dX1_countOf_5 (by decide) ?_
    refine lv_icmp_ge (tgt := 30) hx hb dX1_countOf_8 (by decide) (fun c_2 => absurd c_2 (nI_ge (a := k) (b := 341) hkn (by omega))) (fun c_2 => ?_)
    refine lv_aload_n hx hb dX1_countOf_11 rfl (lv_at hl 2 rfl) ?_
    refine mt_get S iw_X1 hC hW (wc_lay h6 hi) rfl 0 (by decide) mw_fl_X1_9 rfl rfl dX1_countOf_12 ?_
    refine lv_iload_n hx hb dX1_countOf_15 rfl (lv_at hl 0 rfl) ?_
    refine wk_ialn S hC hW (ar_k h6 hi) k rfl (by omega) (by decide) dX1_countOf_16 ?_
    refine lv_iload_n hx hb dX1_countOf_17 rfl (lv_at hl 3 rfl) ?_
    refine lv_icmp_ne (tgt := 24) hx hb dX1_countOf_18 (by decide) (fun c_3 => ?_) (fun c_3 => ?_)
    · refine lv_iinc (v := nI (k + 1)) (lv' := [(3, .int (nI (k + 1))), (2, .int (c_X1_countOf_ln lc mc bc N G i x k)), (0, .ref (ad (100 + i))), (1, .int (x))]) hx hb dX1_countOf_24 hl (k := 0) rfl (nI_1 _) (by decide) rfl (fun ls hl => ?_)
      refine lv_goto (tgt := 4) hx hb dX1_countOf_27 (by decide) ?_
      have hl : lv_has ls 4 [(3, .int (nI (k + 1))), (2, .int (c_X1_countOf_ln lc mc bc N G i x (k + 1))), (0, .ref (ad (100 + i))), (1, .int (x))] := by rw [show c_X1_countOf_ln lc mc bc N G i x (k + 1) = c_X1_countOf_ln lc mc bc N G i x k from (by rw [c_X1_countOf_ln, if_neg c_3])]; exact lv_sub hl [0, 1, 2, 3] rfl
      exact ih _ _ _ trivial hW hS hl
    · refine lv_iinc (v := c_X1_countOf_ln lc mc bc N G i x k + 1) (lv' := [(2, .int (c_X1_countOf_ln lc mc bc N G i x k + 1)), (3, .int (nI k)), (0, .ref (ad (100 + i))), (1, .int (x))]) hx hb dX1_countOf_21 hl (k := 1) rfl rfl (by decide) rfl (fun ls hl => ?_)
      refine lv_iinc (v := nI (k + 1)) (lv' := [(3, .int (nI (k + 1))), (2, .int (c_X1_countOf_ln lc mc bc N G i x k + 1)), (0, .ref (ad (100 + i))), (1, .int (x))]) hx hb dX1_countOf_24 hl (k := 1) rfl (nI_1 _) (by decide) rfl (fun ls hl => ?_)
      refine lv_goto (tgt := 4) hx hb dX1_countOf_27 (by decide) ?_
      have hl : lv_has ls 4 [(3, .int (nI (k + 1))), (2, .int (c_X1_countOf_ln lc mc bc N G i x (k + 1))), (0, .ref (ad (100 + i))), (1, .int (x))] := by rw [show c_X1_countOf_ln lc mc bc N G i x (k + 1) = c_X1_countOf_ln lc mc bc N G i x k + 1 from (by rw [c_X1_countOf_ln, if_pos c_3])]; exact lv_sub hl [0, 1, 2, 3] rfl
      exact ih _ _ _ trivial hW hS hl
def c_X1_bytesOfOwner_ln (lc mc bc : Nat) (N G : Nat → Nat → Int32) (i : Nat) (x : Int32) : Nat → Int32
  | 0 => 0
  | k + 1 => (c_X1_bytesOfOwner_ln lc mc bc N G i x k) + (c_X1_bytesOfOwnerAt lc mc bc N G i x (nI k))
def c_X1_bytesOfOwner (lc mc bc : Nat) (N G : Nat → Nat → Int32) (i : Nat) (x : Int32) : Int32 := c_X1_bytesOfOwner_ln lc mc bc N G i x 341
set_option maxRecDepth 100000 in
set_option maxHeartbeats 4000000 in
theorem k_X1_bytesOfOwner (l : Launch) (hlt : l.stackTraces = false) (g : mt_G) (z : Nat) (ad : Nat → Nat) (lc mc bc : Nat) (N G : Nat → Nat → Int32) (o : Nat → Int64) (d : mt_D) (h6 : lc ≤ 6) (h8 : mc ≤ 8) (hb6 : bc ≤ 6) (i : Nat) (x : Int32) (hi : i < lc) : mt_K l g z yX1_bytesOfOwner cX1_bytesOfOwner 4 (some .int) 3 64 0 0 [.ref (ad (100 + i)), .int x] (mt_wc g ad lc mc bc N G o d) ad (.inr (some (.int (c_X1_bytesOfOwner lc mc bc N G i x)))) (mt_wc g ad lc mc bc N G o d) ad := by
  refine mt_ofW (by decide +kernel) (Nat.le_of_ble_eq_true rfl) ?_
  intro p e s m args below meth c S hr9 hk hnm hout hC hW hS ls hl
  have hr := hr9
  have hx := S.1
  have hb := S.2.1
  have hl : lv_has ls 4 [(0, .ref (ad (100 + i))), (1, .int (x))] := hl
  refine lv_iconst (v := 0) hx hb dX1_bytesOfOwner_0 (by decide) ?_
  refine lv_istore_n (lv' := [(2, .int (0)), (0, .ref (ad (100 + i))), (1, .int (x))]) hx hb dX1_bytesOfOwner_1 rfl hl (by decide) rfl (fun ls hl => ?_)
  refine lv_iconst (v := 0) hx hb dX1_bytesOfOwner_2 (by decide) ?_
  refine lv_istore_n (lv' := [(3, .int (0)), (2, .int (0)), (0, .ref (ad (100 + i))), (1, .int (x))]) hx hb dX1_bytesOfOwner_3 rfl hl (by decide) rfl (fun ls hl => ?_)
  have hl : lv_has ls 4 [(3, .int (nI 0)), (2, .int (c_X1_bytesOfOwner_ln lc mc bc N G i x 0)), (0, .ref (ad (100 + i))), (1, .int (x))] := lv_sub hl [0, 1, 2, 3] rfl
  refine lp_up 341 (fun k => mt_wc g ad lc mc bc N G o d) (fun k => [(3, .int (nI k)), (2, .int (c_X1_bytesOfOwner_ln lc mc bc N G i x k)), (0, .ref (ad (100 + i))), (1, .int (x))]) (fun _ => True) 0 (by omega) trivial hW hS hl (fun H locs ls hP hW hS hl => ?_) (fun k H locs ls hk0 hkn hP hW hS hl ih => ?_)
  · have hW : mt_W g z (mt_wc g ad lc mc bc N G o d) ad _ := hW
    have hl : lv_has ls 4 [(3, .int (nI 341)), (2, .int (c_X1_bytesOfOwner_ln lc mc bc N G i x 341)), (0, .ref (ad (100 + i))), (1, .int (x))] := hl
    refine lv_iload_n hx hb dX1_bytesOfOwner_4 rfl (lv_at hl 0 rfl) ?_
    refine lv_sipush (v := 341) hx hb dX1_bytesOfOwner_5 (by decide) ?_
    refine lv_icmp_ge (tgt := 26) hx hb dX1_bytesOfOwner_8 (by decide) (fun c_1 => ?_) (fun c_1 => absurd (nI_le (a := 341) (b := 341) (Nat.le_refl _) (by omega)) c_1)
    refine lv_iload_n hx hb dX1_bytesOfOwner_26 rfl (lv_at hl 1 rfl) ?_
    exact mt_ri S hr hk hW hS (by rw [c_X1_bytesOfOwner]) (Nat.le_of_ble_eq_true rfl) (Nat.le_of_ble_eq_true rfl) dX1_bytesOfOwner_27
  · have hW : mt_W g z (mt_wc g ad lc mc bc N G o d) ad _ := hW
    have hl : lv_has ls 4 [(3, .int (nI k)), (2, .int (c_X1_bytesOfOwner_ln lc mc bc N G i x k)), (0, .ref (ad (100 + i))), (1, .int (x))] := hl
    refine lv_iload_n hx hb dX1_bytesOfOwner_4 rfl (lv_at hl 0 rfl) ?_
    refine lv_sipush (v := 341) hx hb dX1_bytesOfOwner_5 (by decide) ?_
    refine lv_icmp_ge (tgt := 26) hx hb dX1_bytesOfOwner_8 (by decide) (fun c_2 => absurd c_2 (nI_ge (a := k) (b := 341) hkn (by omega))) (fun c_2 => ?_)
    refine lv_iload_n hx hb dX1_bytesOfOwner_11 rfl (lv_at hl 1 rfl) ?_
    refine lv_aload_n hx hb dX1_bytesOfOwner_12 rfl (lv_at hl 2 rfl) ?_
    refine lv_iload_n hx hb dX1_bytesOfOwner_13 rfl (lv_at hl 3 rfl) ?_
    refine lv_iload_n hx hb dX1_bytesOfOwner_14 rfl (lv_at hl 0 rfl) ?_
    refine mt_cV1 (As := [.int (x), .int (nI k)]) (rest := [.int (c_X1_bytesOfOwner_ln lc mc bc N G i x k)]) S pv_X1_bytesOfOwnerAt mw_ml_X1_42 (k_X1_bytesOfOwnerAt l hlt g z ad lc mc bc N G o d h6 h8 hb6 i x (nI k) hi) hC hW hS (wc_lay h6 hi) rfl rfl rfl hl.1 rfl (Nat.le_of_ble_eq_true rfl) dX1_bytesOfOwner_15 ⟨(Nat.le_of_ble_eq_true rfl), (Nat.le_of_ble_eq_true rfl)⟩ ⟨(Nat.le_of_ble_eq_true rfl), (Nat.le_of_ble_eq_true rfl)⟩ rfl (fun H locs hW hS => ?_)
    refine lv_iadd hx hb dX1_bytesOfOwner_18 ?_
    refine lv_istore_n (lv' := [(2, .int ((c_X1_bytesOfOwner_ln lc mc bc N G i x k) + (c_X1_bytesOfOwnerAt lc mc bc N G i x (nI k)))), (3, .int (nI k)), (0, .ref (ad (100 + i))), (1, .int (x))]) hx hb dX1_bytesOfOwner_19 rfl hl (by decide) rfl (fun ls hl => ?_)
    refine lv_iinc (v := nI (k + 1)) (lv' := [(3, .int (nI (k + 1))), (2, .int ((c_X1_bytesOfOwner_ln lc mc bc N G i x k) + (c_X1_bytesOfOwnerAt lc mc bc N G i x (nI k)))), (0, .ref (ad (100 + i))), (1, .int (x))]) hx hb dX1_bytesOfOwner_20 hl (k := 1) rfl (nI_1 _) (by decide) rfl (fun ls hl => ?_)
    refine lv_goto (tgt := 4) hx hb dX1_bytesOfOwner_23 (by decide) ?_
    have hl : lv_has ls 4 [(3, .int (nI (k + 1))), (2, .int (c_X1_bytesOfOwner_ln lc mc bc N G i x (k + 1))), (0, .ref (ad (100 + i))), (1, .int (x))] := by rw [show c_X1_bytesOfOwner_ln lc mc bc N G i x (k + 1) = (c_X1_bytesOfOwner_ln lc mc bc N G i x k) + (c_X1_bytesOfOwnerAt lc mc bc N G i x (nI k)) from (by rw [c_X1_bytesOfOwner_ln])]; exact lv_sub hl [0, 1, 2, 3] rfl
    exact ih _ _ _ trivial hW hS hl
def c_X1_allBytesOfFiles_ln (lc mc bc : Nat) (N G : Nat → Nat → Int32) (i : Nat) : Nat → Int32
  | 0 => 0
  | k + 1 => (c_X1_allBytesOfFiles_ln lc mc bc N G i k) + (c_X1_bytesAt lc mc bc N G i (nI k))
def c_X1_allBytesOfFiles (lc mc bc : Nat) (N G : Nat → Nat → Int32) (i : Nat) : Int32 := c_X1_allBytesOfFiles_ln lc mc bc N G i 341
set_option maxRecDepth 100000 in
set_option maxHeartbeats 4000000 in
theorem k_X1_allBytesOfFiles (l : Launch) (hlt : l.stackTraces = false) (g : mt_G) (z : Nat) (ad : Nat → Nat) (lc mc bc : Nat) (N G : Nat → Nat → Int32) (o : Nat → Int64) (d : mt_D) (h6 : lc ≤ 6) (h8 : mc ≤ 8) (hb6 : bc ≤ 6) (i : Nat) (hi : i < lc) : mt_K l g z yX1_allBytesOfFiles cX1_allBytesOfFiles 3 (some .int) 2 42 0 0 [.ref (ad (100 + i))] (mt_wc g ad lc mc bc N G o d) ad (.inr (some (.int (c_X1_allBytesOfFiles lc mc bc N G i)))) (mt_wc g ad lc mc bc N G o d) ad := by
  refine mt_ofW (by decide +kernel) (Nat.le_of_ble_eq_true rfl) ?_
  intro p e s m args below meth c S hr9 hk hnm hout hC hW hS ls hl
  have hr := hr9
  have hx := S.1
  have hb := S.2.1
  have hl : lv_has ls 3 [(0, .ref (ad (100 + i)))] := hl
  refine lv_iconst (v := 0) hx hb dX1_allBytesOfFiles_0 (by decide) ?_
  refine lv_istore_n (lv' := [(1, .int (0)), (0, .ref (ad (100 + i)))]) hx hb dX1_allBytesOfFiles_1 rfl hl (by decide) rfl (fun ls hl => ?_)
  refine lv_iconst (v := 0) hx hb dX1_allBytesOfFiles_2 (by decide) ?_
  refine lv_istore_n (lv' := [(2, .int (0)), (1, .int (0)), (0, .ref (ad (100 + i)))]) hx hb dX1_allBytesOfFiles_3 rfl hl (by decide) rfl (fun ls hl => ?_)
  have hl : lv_has ls 3 [(2, .int (nI 0)), (1, .int (c_X1_allBytesOfFiles_ln lc mc bc N G i 0)), (0, .ref (ad (100 + i)))] := lv_sub hl [0, 1, 2] rfl
  refine lp_up 341 (fun k => mt_wc g ad lc mc bc N G o d) (fun k => [(2, .int (nI k)), (1, .int (c_X1_allBytesOfFiles_ln lc mc bc N G i k)), (0, .ref (ad (100 + i)))]) (fun _ => True) 0 (by omega) trivial hW hS hl (fun H locs ls hP hW hS hl => ?_) (fun k H locs ls hk0 hkn hP hW hS hl ih => ?_)
  · have hW : mt_W g z (mt_wc g ad lc mc bc N G o d) ad _ := hW
    have hl : lv_has ls 3 [(2, .int (nI 341)), (1, .int (c_X1_allBytesOfFiles_ln lc mc bc N G i 341)), (0, .ref (ad (100 + i)))] := hl
    refine lv_iload_n hx hb dX1_allBytesOfFiles_4 rfl (lv_at hl 0 rfl) ?_
    refine lv_sipush (v := 341) hx hb dX1_allBytesOfFiles_5 (by decide) ?_
    refine lv_icmp_ge (tgt := 25) hx hb dX1_allBytesOfFiles_8 (by decide) (fun c_1 => ?_) (fun c_1 => absurd (nI_le (a := 341) (b := 341) (Nat.le_refl _) (by omega)) c_1)
    refine lv_iload_n hx hb dX1_allBytesOfFiles_25 rfl (lv_at hl 1 rfl) ?_
    exact mt_ri S hr hk hW hS (by rw [c_X1_allBytesOfFiles]) (Nat.le_of_ble_eq_true rfl) (Nat.le_of_ble_eq_true rfl) dX1_allBytesOfFiles_26
  · have hW : mt_W g z (mt_wc g ad lc mc bc N G o d) ad _ := hW
    have hl : lv_has ls 3 [(2, .int (nI k)), (1, .int (c_X1_allBytesOfFiles_ln lc mc bc N G i k)), (0, .ref (ad (100 + i)))] := hl
    refine lv_iload_n hx hb dX1_allBytesOfFiles_4 rfl (lv_at hl 0 rfl) ?_
    refine lv_sipush (v := 341) hx hb dX1_allBytesOfFiles_5 (by decide) ?_
    refine lv_icmp_ge (tgt := 25) hx hb dX1_allBytesOfFiles_8 (by decide) (fun c_2 => absurd c_2 (nI_ge (a := k) (b := 341) hkn (by omega))) (fun c_2 => ?_)
    refine lv_iload_n hx hb dX1_allBytesOfFiles_11 rfl (lv_at hl 1 rfl) ?_
    refine lv_aload_n hx hb dX1_allBytesOfFiles_12 rfl (lv_at hl 2 rfl) ?_
    refine lv_iload_n hx hb dX1_allBytesOfFiles_13 rfl (lv_at hl 0 rfl) ?_
    refine mt_cV1 (As := [.int (nI k)]) (rest := [.int (c_X1_allBytesOfFiles_ln lc mc bc N G i k)]) S pv_X1_bytesAt mw_ml_X1_35 (k_X1_bytesAt l hlt g z ad lc mc bc N G o d h6 h8 hb6 i (nI k) hi) hC hW hS (wc_lay h6 hi) rfl rfl rfl hl.1 rfl (Nat.le_of_ble_eq_true rfl) dX1_allBytesOfFiles_14 ⟨(Nat.le_of_ble_eq_true rfl), (Nat.le_of_ble_eq_true rfl)⟩ ⟨(Nat.le_of_ble_eq_true rfl), (Nat.le_of_ble_eq_true rfl)⟩ rfl (fun H locs hW hS => ?_)
    refine lv_iadd hx hb dX1_allBytesOfFiles_17 ?_
    refine lv_istore_n (lv' := [(1, .int ((c_X1_allBytesOfFiles_ln lc mc bc N G i k) + (c_X1_bytesAt lc mc bc N G i (nI k)))), (2, .int (nI k)), (0, .ref (ad (100 + i)))]) hx hb dX1_allBytesOfFiles_18 rfl hl (by decide) rfl (fun ls hl => ?_)
    refine lv_iinc (v := nI (k + 1)) (lv' := [(2, .int (nI (k + 1))), (1, .int ((c_X1_allBytesOfFiles_ln lc mc bc N G i k) + (c_X1_bytesAt lc mc bc N G i (nI k)))), (0, .ref (ad (100 + i)))]) hx hb dX1_allBytesOfFiles_19 hl (k := 1) rfl (nI_1 _) (by decide) rfl (fun ls hl => ?_)
    refine lv_goto (tgt := 4) hx hb dX1_allBytesOfFiles_22 (by decide) ?_
    have hl : lv_has ls 3 [(2, .int (nI (k + 1))), (1, .int (c_X1_allBytesOfFiles_ln lc mc bc N G i (k + 1))), (0, .ref (ad (100 + i)))] := by rw [show c_X1_allBytesOfFiles_ln lc mc bc N G i (k + 1) = (c_X1_allBytesOfFiles_ln lc mc bc N G i k) + (c_X1_bytesAt lc mc bc N G i (nI k)) from (by rw [c_X1_allBytesOfFiles_ln])]; exact lv_sub hl [0, 1, 2] rfl
    exact ih _ _ _ trivial hW hS hl
def c_X1_forgetCounted_lG (lc mc bc : Nat) (N G : Nat → Nat → Int32) (i : Nat) : Nat → Nat → Nat → Int32
  | 0 => G
  | k + 1 => mt_gu (c_X1_forgetCounted_lG lc mc bc N G i k) (140 + i) k 0
def c_X1_forgetCounted_G (lc mc bc : Nat) (N G : Nat → Nat → Int32) (i : Nat) : Nat → Nat → Int32 := c_X1_forgetCounted_lG lc mc bc N G i 341
set_option maxRecDepth 100000 in
set_option maxHeartbeats 4000000 in
theorem k_X1_forgetCounted (l : Launch) (hlt : l.stackTraces = false) (g : mt_G) (z : Nat) (ad : Nat → Nat) (lc mc bc : Nat) (N G : Nat → Nat → Int32) (o : Nat → Int64) (d : mt_D) (h6 : lc ≤ 6) (h8 : mc ≤ 8) (hb6 : bc ≤ 6) (i : Nat) (hi : i < lc) : mt_K l g z yX1_forgetCounted cX1_forgetCounted 2 none 0 0 0 0 [.ref (ad (100 + i))] (mt_wc g ad lc mc bc N G o d) ad (.inr none) (mt_wc g ad lc mc bc N (c_X1_forgetCounted_G lc mc bc N G i) o d) ad := by
  refine mt_ofW (by decide +kernel) (Nat.le_of_ble_eq_true rfl) ?_
  intro p e s m args below meth c S hr9 hk hnm hout hC hW hS ls hl
  have hr := hr9
  have hx := S.1
  have hb := S.2.1
  have hl : lv_has ls 2 [(0, .ref (ad (100 + i)))] := hl
  refine lv_iconst (v := 0) hx hb dX1_forgetCounted_0 (by decide) ?_
  refine lv_istore_n (lv' := [(1, .int (0)), (0, .ref (ad (100 + i)))]) hx hb dX1_forgetCounted_1 rfl hl (by decide) rfl (fun ls hl => ?_)
  have hl : lv_has ls 2 [(1, .int (nI 0)), (0, .ref (ad (100 + i)))] := lv_sub hl [0, 1] rfl
  have hW : mt_W g z (mt_wc g ad lc mc bc N (c_X1_forgetCounted_lG lc mc bc N G i 0) o d) ad _ := hW
  refine lp_up 341 (fun k => mt_wc g ad lc mc bc N (c_X1_forgetCounted_lG lc mc bc N G i k) o d) (fun k => [(1, .int (nI k)), (0, .ref (ad (100 + i)))]) (fun _ => True) 0 (by omega) trivial hW hS hl (fun H locs ls hP hW hS hl => ?_) (fun k H locs ls hk0 hkn hP hW hS hl ih => ?_)
  · have hW : mt_W g z (mt_wc g ad lc mc bc N (c_X1_forgetCounted_lG lc mc bc N G i 341) o d) ad _ := hW
    have hl : lv_has ls 2 [(1, .int (nI 341)), (0, .ref (ad (100 + i)))] := hl
    refine lv_iload_n hx hb dX1_forgetCounted_2 rfl (lv_at hl 0 rfl) ?_
    refine lv_sipush (v := 341) hx hb dX1_forgetCounted_3 (by decide) ?_
    refine lv_icmp_ge (tgt := 22) hx hb dX1_forgetCounted_6 (by decide) (fun c_1 => ?_) (fun c_1 => absurd (nI_le (a := 341) (b := 341) (Nat.le_refl _) (by omega)) c_1)
    have hW := hW.to (w1 := mt_wc g ad lc mc bc N (c_X1_forgetCounted_G lc mc bc N G i) o d) (by rw [c_X1_forgetCounted_G])
    exact mt_rv S hr hk hW hS rfl (Nat.le_of_ble_eq_true rfl) (Nat.le_of_ble_eq_true rfl) dX1_forgetCounted_22
  · have hW : mt_W g z (mt_wc g ad lc mc bc N (c_X1_forgetCounted_lG lc mc bc N G i k) o d) ad _ := hW
    have hl : lv_has ls 2 [(1, .int (nI k)), (0, .ref (ad (100 + i)))] := hl
    refine lv_iload_n hx hb dX1_forgetCounted_2 rfl (lv_at hl 0 rfl) ?_
    refine lv_sipush (v := 341) hx hb dX1_forgetCounted_3 (by decide) ?_
    refine lv_icmp_ge (tgt := 22) hx hb dX1_forgetCounted_6 (by decide) (fun c_2 => absurd c_2 (nI_ge (a := k) (b := 341) hkn (by omega))) (fun c_2 => ?_)
    refine lv_aload_n hx hb dX1_forgetCounted_9 rfl (lv_at hl 1 rfl) ?_
    refine mt_get S iw_X1 hC hW (wc_lay h6 hi) rfl 3 (by decide) mw_fl_X1_21 rfl rfl dX1_forgetCounted_10 ?_
    refine lv_iload_n hx hb dX1_forgetCounted_13 rfl (lv_at hl 0 rfl) ?_
    refine lv_iconst (v := 0) hx hb dX1_forgetCounted_14 (by decide) ?_
    refine wk_zasn S hC hW hS (ar_c h6 hi) k rfl (by omega) (by decide) rfl dX1_forgetCounted_15 (fun H locs hW hS => ?_)
    refine lv_iinc (v := nI (k + 1)) (lv' := [(1, .int (nI (k + 1))), (0, .ref (ad (100 + i)))]) hx hb dX1_forgetCounted_16 hl (k := 0) rfl (nI_1 _) (by decide) rfl (fun ls hl => ?_)
    refine lv_goto (tgt := 2) hx hb dX1_forgetCounted_19 (by decide) ?_
    have hW : mt_W g z (mt_wc g ad lc mc bc N (c_X1_forgetCounted_lG lc mc bc N G i (k + 1)) o d) ad _ := hW.to (by rw [show c_X1_forgetCounted_lG lc mc bc N G i (k + 1) = mt_gu (c_X1_forgetCounted_lG lc mc bc N G i k) (140 + i) k 0 from (by rw [c_X1_forgetCounted_lG])])
    have hl : lv_has ls 2 [(1, .int (nI (k + 1))), (0, .ref (ad (100 + i)))] := lv_sub hl [0, 1] rfl
    exact ih _ _ _ trivial hW hS hl

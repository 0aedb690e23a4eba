section R5
variable {lc mc bc : Nat} {N G : Nat → Nat → Int32} {x : Int32}
theorem im_m (hM : MI N G) (h : ¬ c_X4_isMount lc mc bc N G x = 0) : ∃ j, j < mqN N ∧ x = nI j := by
  unfold c_X4_isMount at h
  by_cases h1 : c_inI x 0 (N 200 9 - 1) = 0
  · rw [if_pos h1] at h; exact absurd rfl h
  · exact inI_m hM h1
theorem ow_in (h : ¬ c_X4_isOwner x = 0) : vp_in x 4 := by
  unfold c_X4_isOwner at h
  obtain ⟨h1, h2⟩ := inI_1 h
  obtain ⟨j, hj, rfl⟩ := nI_of h1
  rw [show (3 : Int32) = nI 3 by decide, nI_ltI (by decide) hj] at h2
  exact vp_in_nI (by omega) (by decide)
theorem il_j (hM : MI N G) (h : ¬ c_X4_isLayer lc mc bc N G x = 0) : ∃ j, j < lqN N ∧ x = nI j := inI_l hM h
theorem il_1 (hM : MI N G) (h : ¬ c_X4_isLayer lc mc bc N G x = 0) : x = nI x.toNatClampNeg := by
  obtain ⟨j, hj, rfl⟩ := il_j hM h
  have := hM.1
  rw [nI_clamp (by omega)]
theorem il_2 (hM : MI N G) (h : ¬ c_X4_isLayer lc mc bc N G x = 0) : x.toNatClampNeg < 6 := by
  obtain ⟨j, hj, rfl⟩ := il_j hM h
  have := hM.1
  rw [nI_clamp (by omega)]; omega
theorem vp_new (hM : MI N G) (h : ¬ N 200 9 = 8) : vp_in (N 200 9) 8 := by
  have h1 := hM.2.1
  have h2 := hM.2.2.2.2.1
  rw [h2] at h ⊢
  refine vp_in_nI ?_ (by decide)
  rcases Nat.lt_or_ge (mqN N) 8 with q | q
  · exact q
  · have e : mqN N = 8 := by omega
    rw [e] at h; exact absurd (by decide) h
theorem ct_0 (h : x = nI x.toNatClampNeg) : nI (341 * x.toNatClampNeg + 0) = 341 * x := by
  rw [Nat.add_zero, ← nI_mulN, ← h]; rfl
theorem ct_m (h : x = nI x.toNatClampNeg) : 341 * x + 341 = nI (341 * x.toNatClampNeg + 341) := by
  rw [← ct_0 h, Nat.add_zero, show (341 : Int32) = nI 341 by decide, nI_add]
theorem ct_e (h : x = nI x.toNatClampNeg) : 341 * x + 341 ≤ nI (341 * x.toNatClampNeg + 341) := by
  rw [ct_m h]; exact Int32.le_refl _
theorem ct_b {k : Nat} (h : x = nI x.toNatClampNeg) (h2 : x.toNatClampNeg < 6) (hk : k < 341) : ¬ 341 * x + 341 ≤ nI (341 * x.toNatClampNeg + k) := by
  rw [ct_m h]; exact nI_ge (by omega) (by omega)
end R5
def c_X4_count_ls (G : Nat → Nat → Int32) (x : Int32) (y : Int32) : Nat → Int32
  | 0 => 0
  | k + 1 => if (G 201 (341 * x.toNatClampNeg + k)) = y then ((c_X4_count_ls G x y k) + 1) else ((c_X4_count_ls G x y k) + 0)
def c_X4_count (lc mc bc : Nat) (N G : Nat → Nat → Int32) (x : Int32) (y : Int32) : Int32 := c_X4_count_ls G x y 341
set_option maxRecDepth 100000 in
set_option maxHeartbeats 4000000 in
theorem k_X4_count (l : Launch) (hlt : l.stackTraces = false) (g : mt_G) (z : Nat) (ad : Nat → Nat) (lc mc bc : Nat) (N G : Nat → Nat → Int32) (o : Nat → Int64) (d : mt_D) (h6 : lc ≤ 6) (h8 : mc ≤ 8) (hb6 : bc ≤ 6) (x : Int32) (y : Int32) (hx1 : x = nI x.toNatClampNeg) (hx2 : x.toNatClampNeg < 6) : mt_K l g z yX4_count cX4_count 5 (some .int) 0 0 0 0 [.ref (ad (200)), .int x, .int y] (mt_wc g ad lc mc bc N G o d) ad (.inr (some (.int (c_X4_count lc mc bc N G x y)))) (mt_wc g ad lc mc bc N G o d) ad := by
  refine mt_ofW (by decide +kernel) (Nat.le_of_ble_eq_true rfl) ?_
  intro p e s m args below meth c S hr9 hk hnm hout hC hW hS ls hl
  have hr := hr9
  have hx := S.1
  have hb := S.2.1
  have hl : lv_has ls 5 [(0, .ref (ad (200))), (1, .int (x)), (2, .int (y))] := hl
  refine lv_iconst (v := 0) hx hb dX4_count_0 (by decide) ?_
  refine lv_istore_n (lv' := [(3, .int (0)), (0, .ref (ad (200))), (1, .int (x)), (2, .int (y))]) hx hb dX4_count_1 rfl hl (by decide) rfl (fun ls hl => ?_)
  refine lv_sipush (v := 341) hx hb dX4_count_2 (by decide) ?_
  refine lv_iload_n hx hb dX4_count_5 rfl (lv_at hl 2 rfl) ?_
  refine lv_imul hx hb dX4_count_6 ?_
  refine lv_istore (lv' := [(4, .int (341 * x)), (3, .int (0)), (0, .ref (ad (200))), (1, .int (x)), (2, .int (y))]) hx hb dX4_count_7 hl (by decide) rfl (fun ls hl => ?_)
  have hl : lv_has ls 5 [(3, .int (c_X4_count_ls G x y 0)), (4, .int (nI (341 * x.toNatClampNeg + 0))), (0, .ref (ad (200))), (1, .int (x)), (2, .int (y))] := by rw [show nI (341 * x.toNatClampNeg + 0) = 341 * x from ct_0 hx1]; exact lv_sub hl [1, 0, 2, 3, 4] rfl
  refine lp_up 341 (fun k => mt_wc g ad lc mc bc N G o d) (fun k => [(3, .int (c_X4_count_ls G x y k)), (4, .int (nI (341 * x.toNatClampNeg + k))), (0, .ref (ad (200))), (1, .int (x)), (2, .int (y))]) (fun _ => True) 0 (by omega) trivial hW hS hl (fun H locs ls hP hW hS hl => ?_) (fun k H locs ls hk0 hkn hP hW hS hl ih => ?_)
  · have hW : mt_W g z (mt_wc g ad lc mc bc N G o d) ad _ := hW
    have hl : lv_has ls 5 [(3, .int (c_X4_count_ls G x y 341)), (4, .int (nI (341 * x.toNatClampNeg + 341))), (0, .ref (ad (200))), (1, .int (x)), (2, .int (y))] := hl
    refine lv_iload hx hb dX4_count_9 (lv_at hl 1 rfl) ?_
    refine lv_sipush (v := 341) hx hb dX4_count_11 (by decide) ?_
    refine lv_iload_n hx hb dX4_count_14 rfl (lv_at hl 3 rfl) ?_
    refine lv_imul hx hb dX4_count_15 ?_
    refine lv_sipush (v := 341) hx hb dX4_count_16 (by decide) ?_
    refine lv_iadd hx hb dX4_count_19 ?_
    refine lv_icmp_ge (tgt := 48) hx hb dX4_count_20 (by decide) (fun c_1 => ?_) (fun c_1 => absurd (ct_e hx1) c_1)
    refine lv_iload_n hx hb dX4_count_48 rfl (lv_at hl 0 rfl) ?_
    exact mt_ri S hr hk hW hS (by rw [c_X4_count]) (Nat.le_of_ble_eq_true rfl) (Nat.le_of_ble_eq_true rfl) dX4_count_49
  · have hW : mt_W g z (mt_wc g ad lc mc bc N G o d) ad _ := hW
    have hl : lv_has ls 5 [(3, .int (c_X4_count_ls G x y k)), (4, .int (nI (341 * x.toNatClampNeg + k))), (0, .ref (ad (200))), (1, .int (x)), (2, .int (y))] := hl
    refine lv_iload hx hb dX4_count_9 (lv_at hl 1 rfl) ?_
    refine lv_sipush (v := 341) hx hb dX4_count_11 (by decide) ?_
    refine lv_iload_n hx hb dX4_count_14 rfl (lv_at hl 3 rfl) ?_
    refine lv_imul hx hb dX4_count_15 ?_
    refine lv_sipush (v := 341) hx hb dX4_count_16 (by decide) ?_
    refine lv_iadd hx hb dX4_count_19 ?_
    refine lv_icmp_ge (tgt := 48) hx hb dX4_count_20 (by decide) (fun c_2 => absurd c_2 (ct_b hx1 hx2 hkn)) (fun c_2 => ?_)
    refine lv_iload_n hx hb dX4_count_23 rfl (lv_at hl 0 rfl) ?_
    refine lv_aload_n hx hb dX4_count_24 rfl (lv_at hl 2 rfl) ?_
    refine mt_get S iw_X4 hC hW wc_200 rfl 0 (by decide) mw_fl_X4_7 rfl rfl dX4_count_25 ?_
    refine lv_iload hx hb dX4_count_28 (lv_at hl 1 rfl) ?_
    refine wk_ialn S hC hW ar_201 (341 * x.toNatClampNeg + k) rfl (by omega) (by decide) dX4_count_30 ?_
    refine lv_iload_n hx hb dX4_count_31 rfl (lv_at hl 4 rfl) ?_
    refine lv_icmp_ne (tgt := 39) hx hb dX4_count_32 (by decide) (fun c_3 => ?_) (fun c_3 => ?_)
    · refine lv_iconst (v := 0) hx hb dX4_count_39 (by decide) ?_
      refine lv_iadd hx hb dX4_count_40 ?_
      refine lv_istore_n (lv' := [(3, .int ((c_X4_count_ls G x y k) + 0)), (4, .int (nI (341 * x.toNatClampNeg + k))), (0, .ref (ad (200))), (1, .int (x)), (2, .int (y))]) hx hb dX4_count_41 rfl hl (by decide) rfl (fun ls hl => ?_)
      refine lv_iinc (v := nI ((341 * x.toNatClampNeg + k) + 1)) (lv' := [(4, .int (nI ((341 * x.toNatClampNeg + k) + 1))), (3, .int ((c_X4_count_ls G x y k) + 0)), (0, .ref (ad (200))), (1, .int (x)), (2, .int (y))]) hx hb dX4_count_42 hl (k := 1) rfl (nI_1 _) (by decide) rfl (fun ls hl => ?_)
      refine lv_goto (tgt := 9) hx hb dX4_count_45 (by decide) ?_
      have hl : lv_has ls 5 [(3, .int (c_X4_count_ls G x y (k + 1))), (4, .int (nI (341 * x.toNatClampNeg + (k + 1)))), (0, .ref (ad (200))), (1, .int (x)), (2, .int (y))] := by rw [show c_X4_count_ls G x y (k + 1) = (c_X4_count_ls G x y k) + 0 from (by rw [c_X4_count_ls, if_neg c_3])]; exact lv_sub hl [1, 0, 2, 3, 4] rfl
      exact ih _ _ _ trivial hW hS hl
    · refine lv_iconst (v := 1) hx hb dX4_count_35 (by decide) ?_
      refine lv_goto (tgt := 40) hx hb dX4_count_36 (by decide) ?_
      refine lv_iadd hx hb dX4_count_40 ?_
      refine lv_istore_n (lv' := [(3, .int ((c_X4_count_ls G x y k) + 1)), (4, .int (nI (341 * x.toNatClampNeg + k))), (0, .ref (ad (200))), (1, .int (x)), (2, .int (y))]) hx hb dX4_count_41 rfl hl (by decide) rfl (fun ls hl => ?_)
      refine lv_iinc (v := nI ((341 * x.toNatClampNeg + k) + 1)) (lv' := [(4, .int (nI ((341 * x.toNatClampNeg + k) + 1))), (3, .int ((c_X4_count_ls G x y k) + 1)), (0, .ref (ad (200))), (1, .int (x)), (2, .int (y))]) hx hb dX4_count_42 hl (k := 1) rfl (nI_1 _) (by decide) rfl (fun ls hl => ?_)
      refine lv_goto (tgt := 9) hx hb dX4_count_45 (by decide) ?_
      have hl : lv_has ls 5 [(3, .int (c_X4_count_ls G x y (k + 1))), (4, .int (nI (341 * x.toNatClampNeg + (k + 1)))), (0, .ref (ad (200))), (1, .int (x)), (2, .int (y))] := by rw [show c_X4_count_ls G x y (k + 1) = (c_X4_count_ls G x y k) + 1 from (by rw [c_X4_count_ls, if_pos c_3])]; exact lv_sub hl [1, 0, 2, 3, 4] rfl
      exact ih _ _ _ trivial hW hS hl
def c_X4_addLayer (lc mc bc : Nat) (N G : Nat → Nat → Int32)  : Int32 := if (N 200 3) = 6 then (-1) else (((N 200 3) + 1) - 1)
def c_X4_addLayer_N (lc mc bc : Nat) (N G : Nat → Nat → Int32)  : Nat → Nat → Int32 := if (N 200 3) = 6 then (mt_gu N 200 15 1) else (mt_gu (mt_gu N 200 15 0) 200 3 ((N 200 3) + 1))
set_option maxRecDepth 100000 in
set_option maxHeartbeats 4000000 in
theorem k_X4_addLayer (l : Launch) (hlt : l.stackTraces = false) (g : mt_G) (z : Nat) (ad : Nat → Nat) (lc mc bc : Nat) (N G : Nat → Nat → Int32) (o : Nat → Int64) (d : mt_D) (h6 : lc ≤ 6) (h8 : mc ≤ 8) (hb6 : bc ≤ 6)   : mt_K l g z yX4_addLayer cX4_addLayer 1 (some .int) 0 0 0 0 [.ref (ad (200))] (mt_wc g ad lc mc bc N G o d) ad (.inr (some (.int (c_X4_addLayer lc mc bc N G)))) (mt_wc g ad lc mc bc (c_X4_addLayer_N lc mc bc N G) G o d) ad := by
  refine mt_ofW (by decide +kernel) (Nat.le_of_ble_eq_true rfl) ?_
  intro p e s m args below meth c S hr9 hk hnm hout hC hW hS ls hl
  have hr := hr9
  have hx := S.1
  have hb := S.2.1
  have hl : lv_has ls 1 [(0, .ref (ad (200)))] := hl
  refine lv_aload_n hx hb dX4_addLayer_0 rfl (lv_at hl 0 rfl) ?_
  refine lv_aload_n hx hb dX4_addLayer_1 rfl (lv_at hl 0 rfl) ?_
  refine mt_get S iw_X4 hC hW wc_200 rfl 3 (by decide) mw_fl_X4_64 rfl rfl dX4_addLayer_2 ?_
  refine lv_bipush (v := 6) hx hb dX4_addLayer_5 (by decide) ?_
  refine lv_icmp_ne (tgt := 14) hx hb dX4_addLayer_7 (by decide) (fun c_1 => ?_) (fun c_1 => ?_)
  · refine lv_iconst (v := 0) hx hb dX4_addLayer_14 (by decide) ?_
    refine mt_put S iw_X4 tyX4 tyX4_ok nmX4 hC hW hS wc_200 rfl 15 (by decide) mw_fl_X4_44 rfl rfl rfl rfl (Nat.le_of_ble_eq_true rfl) dX4_addLayer_15 (fun H locs hW hS => ?_)
    have hW := hW.to (w1 := mt_wc g ad lc mc bc (mt_gu N 200 15 0) G o d) (wc_sett (by decide))
    refine lv_aload_n hx hb dX4_addLayer_18 rfl (lv_at hl 0 rfl) ?_
    refine mt_get S iw_X4 hC hW wc_200 rfl 15 (by decide) mw_fl_X4_44 rfl rfl dX4_addLayer_19 ?_
    refine mt_te (y := 0) rfl ?_
    refine lv_if_le (tgt := 27) hx hb dX4_addLayer_22 (by decide) (fun c_2 => ?_) (fun c_2 => absurd (by decide) c_2)
    refine lv_aload_n hx hb dX4_addLayer_27 rfl (lv_at hl 0 rfl) ?_
    refine lv_dup hx hb dX4_addLayer_28 rfl ?_
    refine mt_get S iw_X4 hC hW wc_200 rfl 3 (by decide) mw_fl_X4_64 rfl rfl dX4_addLayer_29 ?_
    refine mt_te (y := N 200 3) rfl ?_
    refine lv_iconst (v := 1) hx hb dX4_addLayer_32 (by decide) ?_
    refine lv_iadd hx hb dX4_addLayer_33 ?_
    refine mt_put S iw_X4 tyX4 tyX4_ok nmX4 hC hW hS wc_200 rfl 3 (by decide) mw_fl_X4_64 rfl rfl rfl rfl (Nat.le_of_ble_eq_true rfl) dX4_addLayer_34 (fun H locs hW hS => ?_)
    have hW := hW.to (w1 := mt_wc g ad lc mc bc (mt_gu (mt_gu N 200 15 0) 200 3 ((N 200 3) + 1)) G o d) (wc_sett (by decide))
    refine lv_aload_n hx hb dX4_addLayer_37 rfl (lv_at hl 0 rfl) ?_
    refine mt_get S iw_X4 hC hW wc_200 rfl 3 (by decide) mw_fl_X4_64 rfl rfl dX4_addLayer_38 ?_
    refine mt_te (y := (N 200 3) + 1) rfl ?_
    refine lv_iconst (v := 1) hx hb dX4_addLayer_41 (by decide) ?_
    refine lv_isub hx hb dX4_addLayer_42 ?_
    have hW := hW.to (w1 := mt_wc g ad lc mc bc (c_X4_addLayer_N lc mc bc N G) G o d) (by rw [c_X4_addLayer_N, if_neg c_1])
    exact mt_ri S hr hk hW hS (by rw [c_X4_addLayer, if_neg c_1]) (Nat.le_of_ble_eq_true rfl) (Nat.le_of_ble_eq_true rfl) dX4_addLayer_43
  · refine lv_iconst (v := 1) hx hb dX4_addLayer_10 (by decide) ?_
    refine lv_goto (tgt := 15) hx hb dX4_addLayer_11 (by decide) ?_
    refine mt_put S iw_X4 tyX4 tyX4_ok nmX4 hC hW hS wc_200 rfl 15 (by decide) mw_fl_X4_44 rfl rfl rfl rfl (Nat.le_of_ble_eq_true rfl) dX4_addLayer_15 (fun H locs hW hS => ?_)
    have hW := hW.to (w1 := mt_wc g ad lc mc bc (mt_gu N 200 15 1) G o d) (wc_sett (by decide))
    refine lv_aload_n hx hb dX4_addLayer_18 rfl (lv_at hl 0 rfl) ?_
    refine mt_get S iw_X4 hC hW wc_200 rfl 15 (by decide) mw_fl_X4_44 rfl rfl dX4_addLayer_19 ?_
    refine mt_te (y := 1) rfl ?_
    refine lv_if_le (tgt := 27) hx hb dX4_addLayer_22 (by decide) (fun c_3 => absurd c_3 (by decide)) (fun c_3 => ?_)
    refine lv_iconst (v := -1) hx hb dX4_addLayer_25 (by decide) ?_
    have hW := hW.to (w1 := mt_wc g ad lc mc bc (c_X4_addLayer_N lc mc bc N G) G o d) (by rw [c_X4_addLayer_N, if_pos c_1])
    exact mt_ri S hr hk hW hS (by rw [c_X4_addLayer, if_pos c_1]) (Nat.le_of_ble_eq_true rfl) (Nat.le_of_ble_eq_true rfl) dX4_addLayer_26
def c_X4_mount (lc mc bc : Nat) (N G : Nat → Nat → Int32) (x : Int32) (y : Int32) (v : Int32) : Int32 := if (c_X4_isPath x) = 0 then (-1) else (if y = v then (-1) else (if (c_X4_isLayer lc mc bc N G y) = 0 then (-1) else (if v = (-1) then (if (c_X4_isUpper lc mc bc N G y) = 0 then (if v = (-1) then (if (N 200 9) = 8 then (-1) else (((N 200 9) + 1) - 1)) else (if (c_X4_isUsed lc mc bc N G v) = 0 then (if (N 200 9) = 8 then (-1) else (((N 200 9) + 1) - 1)) else (-1))) else (-1)) else (if (c_X4_isLayer lc mc bc N G v) = 0 then (-1) else (if (c_X4_isUpper lc mc bc N G y) = 0 then (if v = (-1) then (if (N 200 9) = 8 then (-1) else (((N 200 9) + 1) - 1)) else (if (c_X4_isUsed lc mc bc N G v) = 0 then (if (N 200 9) = 8 then (-1) else (((N 200 9) + 1) - 1)) else (-1))) else (-1))))))
def c_X4_mount_G (lc mc bc : Nat) (N G : Nat → Nat → Int32) (x : Int32) (y : Int32) (v : Int32) : Nat → Nat → Int32 := if (c_X4_isPath x) = 0 then G else (if y = v then G else (if (c_X4_isLayer lc mc bc N G y) = 0 then G else (if v = (-1) then (if (c_X4_isUpper lc mc bc N G y) = 0 then (if v = (-1) then (if (N 200 9) = 8 then G else (mt_gu (mt_gu (mt_gu (mt_gu (mt_gu G 205 (N 200 9).toNatClampNeg x) 206 (N 200 9).toNatClampNeg y) 207 (N 200 9).toNatClampNeg v) 208 (N 200 9).toNatClampNeg 1) 209 (N 200 9).toNatClampNeg 0)) else (if (c_X4_isUsed lc mc bc N G v) = 0 then (if (N 200 9) = 8 then G else (mt_gu (mt_gu (mt_gu (mt_gu (mt_gu G 205 (N 200 9).toNatClampNeg x) 206 (N 200 9).toNatClampNeg y) 207 (N 200 9).toNatClampNeg v) 208 (N 200 9).toNatClampNeg 1) 209 (N 200 9).toNatClampNeg 0)) else G)) else G) else (if (c_X4_isLayer lc mc bc N G v) = 0 then G else (if (c_X4_isUpper lc mc bc N G y) = 0 then (if v = (-1) then (if (N 200 9) = 8 then G else (mt_gu (mt_gu (mt_gu (mt_gu (mt_gu G 205 (N 200 9).toNatClampNeg x) 206 (N 200 9).toNatClampNeg y) 207 (N 200 9).toNatClampNeg v) 208 (N 200 9).toNatClampNeg 1) 209 (N 200 9).toNatClampNeg 0)) else (if (c_X4_isUsed lc mc bc N G v) = 0 then (if (N 200 9) = 8 then G else (mt_gu (mt_gu (mt_gu (mt_gu (mt_gu G 205 (N 200 9).toNatClampNeg x) 206 (N 200 9).toNatClampNeg y) 207 (N 200 9).toNatClampNeg v) 208 (N 200 9).toNatClampNeg 1) 209 (N 200 9).toNatClampNeg 0)) else G)) else G)))))
def c_X4_mount_N (lc mc bc : Nat) (N G : Nat → Nat → Int32) (x : Int32) (y : Int32) (v : Int32) : Nat → Nat → Int32 := if (c_X4_isPath x) = 0 then (mt_gu N 200 15 1) else (if y = v then (mt_gu N 200 15 1) else (if (c_X4_isLayer lc mc bc N G y) = 0 then (mt_gu N 200 15 2) else (if v = (-1) then (if (c_X4_isUpper lc mc bc N G y) = 0 then (if v = (-1) then (if (N 200 9) = 8 then (mt_gu N 200 15 4) else (mt_gu (mt_gu N 200 15 0) 200 9 ((N 200 9) + 1))) else (if (c_X4_isUsed lc mc bc N G v) = 0 then (if (N 200 9) = 8 then (mt_gu N 200 15 4) else (mt_gu (mt_gu N 200 15 0) 200 9 ((N 200 9) + 1))) else (mt_gu N 200 15 3))) else (mt_gu N 200 15 3)) else (if (c_X4_isLayer lc mc bc N G v) = 0 then (mt_gu N 200 15 2) else (if (c_X4_isUpper lc mc bc N G y) = 0 then (if v = (-1) then (if (N 200 9) = 8 then (mt_gu N 200 15 4) else (mt_gu (mt_gu N 200 15 0) 200 9 ((N 200 9) + 1))) else (if (c_X4_isUsed lc mc bc N G v) = 0 then (if (N 200 9) = 8 then (mt_gu N 200 15 4) else (mt_gu (mt_gu N 200 15 0) 200 9 ((N 200 9) + 1))) else (mt_gu N 200 15 3))) else (mt_gu N 200 15 3))))))
set_option maxRecDepth 100000 in
set_option maxHeartbeats 4000000 in
theorem k_X4_mount (l : Launch) (hlt : l.stackTraces = false) (g : mt_G) (z : Nat) (ad : Nat → Nat) (lc mc bc : Nat) (N G : Nat → Nat → Int32) (o : Nat → Int64) (d : mt_D) (h6 : lc ≤ 6) (h8 : mc ≤ 8) (hb6 : bc ≤ 6) (x : Int32) (y : Int32) (v : Int32) (hM : MI N G) : mt_K l g z yX4_mount cX4_mount 5 (some .int) 2 47 0 0 [.ref (ad (200)), .int x, .int y, .int v] (mt_wc g ad lc mc bc N G o d) ad (.inr (some (.int (c_X4_mount lc mc bc N G x y v)))) (mt_wc g ad lc mc bc (c_X4_mount_N lc mc bc N G x y v) (c_X4_mount_G lc mc bc N G x y v) o d) ad := by
  refine mt_ofW (by decide +kernel) (Nat.le_of_ble_eq_true rfl) ?_
  intro p e s m args below meth c S hr9 hk hnm hout hC hW hS ls hl
  have hr := hr9
  have hx := S.1
  have hb := S.2.1
  have hl : lv_has ls 5 [(0, .ref (ad (200))), (1, .int (x)), (2, .int (y)), (3, .int (v))] := hl
  refine lv_iload_n hx hb dX4_mount_0 rfl (lv_at hl 1 rfl) ?_
  refine mt_cS1 (As := [.int (x)]) (rest := []) S ps_X4_isPath mw_ml_X4_70 (k_X4_isPath l hlt g z ad lc mc bc N G o d h6 h8 hb6 x) hC hW hS rfl hl.1 rfl (Nat.le_of_ble_eq_true rfl) dX4_mount_1 ⟨(Nat.le_of_ble_eq_true rfl), (Nat.le_of_ble_eq_true rfl)⟩ ⟨(Nat.le_of_ble_eq_true rfl), (Nat.le_of_ble_eq_true rfl)⟩ rfl (fun H locs hW hS => ?_)
  refine lv_if_eq (tgt := 12) hx hb dX4_mount_4 (by decide) (fun c_1 => ?_) (fun c_1 => ?_)
  · refine lv_aload_n hx hb dX4_mount_12 rfl (lv_at hl 0 rfl) ?_
    refine lv_iconst (v := 1) hx hb dX4_mount_13 (by decide) ?_
    refine mt_put S iw_X4 tyX4 tyX4_ok nmX4 hC hW hS wc_200 rfl 15 (by decide) mw_fl_X4_44 rfl rfl rfl rfl (Nat.le_of_ble_eq_true rfl) dX4_mount_14 (fun H locs hW hS => ?_)
    have hW := hW.to (w1 := mt_wc g ad lc mc bc (mt_gu N 200 15 1) G o d) (wc_sett (by decide))
    refine lv_iconst (v := -1) hx hb dX4_mount_17 (by decide) ?_
    have hW := hW.to (w1 := mt_wc g ad lc mc bc (c_X4_mount_N lc mc bc N G x y v) (c_X4_mount_G lc mc bc N G x y v) o d) (by rw [c_X4_mount_N, if_pos c_1, c_X4_mount_G, if_pos c_1])
    exact mt_ri S hr hk hW hS (by rw [c_X4_mount, if_pos c_1]) (Nat.le_of_ble_eq_true rfl) (Nat.le_of_ble_eq_true rfl) dX4_mount_18
  · refine lv_iload_n hx hb dX4_mount_7 rfl (lv_at hl 2 rfl) ?_
    refine lv_iload_n hx hb dX4_mount_8 rfl (lv_at hl 3 rfl) ?_
    refine lv_icmp_ne (tgt := 19) hx hb dX4_mount_9 (by decide) (fun c_2 => ?_) (fun c_2 => ?_)
    · refine lv_aload_n hx hb dX4_mount_19 rfl (lv_at hl 0 rfl) ?_
      refine lv_iload_n hx hb dX4_mount_20 rfl (lv_at hl 2 rfl) ?_
      refine mt_cV1 (As := [.int (y)]) (rest := []) S pv_X4_isLayer mw_ml_X4_74 (k_X4_isLayer l hlt g z ad lc mc bc N G o d h6 h8 hb6 y) hC hW hS wc_200 rfl rfl rfl hl.1 rfl (Nat.le_of_ble_eq_true rfl) dX4_mount_21 ⟨(Nat.le_of_ble_eq_true rfl), (Nat.le_of_ble_eq_true rfl)⟩ ⟨(Nat.le_of_ble_eq_true rfl), (Nat.le_of_ble_eq_true rfl)⟩ rfl (fun H locs hW hS => ?_)
      refine lv_if_eq (tgt := 40) hx hb dX4_mount_24 (by decide) (fun c_3 => ?_) (fun c_3 => ?_)
      · refine lv_aload_n hx hb dX4_mount_40 rfl (lv_at hl 0 rfl) ?_
        refine lv_iconst (v := 2) hx hb dX4_mount_41 (by decide) ?_
        refine mt_put S iw_X4 tyX4 tyX4_ok nmX4 hC hW hS wc_200 rfl 15 (by decide) mw_fl_X4_44 rfl rfl rfl rfl (Nat.le_of_ble_eq_true rfl) dX4_mount_42 (fun H locs hW hS => ?_)
        have hW := hW.to (w1 := mt_wc g ad lc mc bc (mt_gu N 200 15 2) G o d) (wc_sett (by decide))
        refine lv_iconst (v := -1) hx hb dX4_mount_45 (by decide) ?_
        have hW := hW.to (w1 := mt_wc g ad lc mc bc (c_X4_mount_N lc mc bc N G x y v) (c_X4_mount_G lc mc bc N G x y v) o d) (by rw [c_X4_mount_N, if_neg c_1, if_neg c_2, if_pos c_3, c_X4_mount_G, if_neg c_1, if_neg c_2, if_pos c_3])
        exact mt_ri S hr hk hW hS (by rw [c_X4_mount, if_neg c_1, if_neg c_2, if_pos c_3]) (Nat.le_of_ble_eq_true rfl) (Nat.le_of_ble_eq_true rfl) dX4_mount_46
      · refine lv_iload_n hx hb dX4_mount_27 rfl (lv_at hl 3 rfl) ?_
        refine lv_iconst (v := -1) hx hb dX4_mount_28 (by decide) ?_
        refine lv_icmp_eq (tgt := 47) hx hb dX4_mount_29 (by decide) (fun c_4 => ?_) (fun c_4 => ?_)
        · refine lv_aload_n hx hb dX4_mount_47 rfl (lv_at hl 0 rfl) ?_
          refine lv_iload_n hx hb dX4_mount_48 rfl (lv_at hl 2 rfl) ?_
          refine mt_cV1 (As := [.int (y)]) (rest := []) S pv_X4_isUpper mw_ml_X4_77 (k_X4_isUpper l hlt g z ad lc mc bc N G o d h6 h8 hb6 y (by repeat (first | exact hM | exact hP | apply MI_t))) hC hW hS wc_200 rfl rfl rfl hl.1 rfl (Nat.le_of_ble_eq_true rfl) dX4_mount_49 ⟨(Nat.le_of_ble_eq_true rfl), (Nat.le_of_ble_eq_true rfl)⟩ ⟨(Nat.le_of_ble_eq_true rfl), (Nat.le_of_ble_eq_true rfl)⟩ rfl (fun H locs hW hS => ?_)
          refine lv_if_ne (tgt := 68) hx hb dX4_mount_52 (by decide) (fun c_5 => ?_) (fun c_5 => ?_)
          · refine lv_iconst (v := 1) hx hb dX4_mount_68 (by decide) ?_
            refine lv_goto (tgt := 73) hx hb dX4_mount_69 (by decide) ?_
            refine lv_istore (lv' := [(4, .int (1)), (0, .ref (ad (200))), (1, .int (x)), (2, .int (y)), (3, .int (v))]) hx hb dX4_mount_73 hl (by decide) rfl (fun ls hl => ?_)
            refine lv_aload_n hx hb dX4_mount_75 rfl (lv_at hl 1 rfl) ?_
            refine lv_iload hx hb dX4_mount_76 (lv_at hl 0 rfl) ?_
            refine lv_if_eq (tgt := 85) hx hb dX4_mount_78 (by decide) (fun c_6 => absurd c_6 (by decide)) (fun c_6 => ?_)
            refine lv_iconst (v := 3) hx hb dX4_mount_81 (by decide) ?_
            refine lv_goto (tgt := 99) hx hb dX4_mount_82 (by decide) ?_
            refine mt_put S iw_X4 tyX4 tyX4_ok nmX4 hC hW hS wc_200 rfl 15 (by decide) mw_fl_X4_44 rfl rfl rfl rfl (Nat.le_of_ble_eq_true rfl) dX4_mount_99 (fun H locs hW hS => ?_)
            have hW := hW.to (w1 := mt_wc g ad lc mc bc (mt_gu N 200 15 3) G o d) (wc_sett (by decide))
            refine lv_aload_n hx hb dX4_mount_102 rfl (lv_at hl 1 rfl) ?_
            refine mt_get S iw_X4 hC hW wc_200 rfl 15 (by decide) mw_fl_X4_44 rfl rfl dX4_mount_103 ?_
            refine mt_te (y := 3) rfl ?_
            refine lv_if_le (tgt := 111) hx hb dX4_mount_106 (by decide) (fun c_7 => absurd c_7 (by decide)) (fun c_7 => ?_)
            refine lv_iconst (v := -1) hx hb dX4_mount_109 (by decide) ?_
            have hW := hW.to (w1 := mt_wc g ad lc mc bc (c_X4_mount_N lc mc bc N G x y v) (c_X4_mount_G lc mc bc N G x y v) o d) (by rw [c_X4_mount_N, if_neg c_1, if_neg c_2, if_neg c_3, if_pos c_4, if_neg c_5, c_X4_mount_G, if_neg c_1, if_neg c_2, if_neg c_3, if_pos c_4, if_neg c_5])
            exact mt_ri S hr hk hW hS (by rw [c_X4_mount, if_neg c_1, if_neg c_2, if_neg c_3, if_pos c_4, if_neg c_5]) (Nat.le_of_ble_eq_true rfl) (Nat.le_of_ble_eq_true rfl) dX4_mount_110
          · refine lv_iload_n hx hb dX4_mount_55 rfl (lv_at hl 3 rfl) ?_
            refine lv_iconst (v := -1) hx hb dX4_mount_56 (by decide) ?_
            refine lv_icmp_eq (tgt := 72) hx hb dX4_mount_57 (by decide) (fun c_8 => ?_) (fun c_8 => ?_)
            · refine lv_iconst (v := 0) hx hb dX4_mount_72 (by decide) ?_
              refine lv_istore (lv' := [(4, .int (0)), (0, .ref (ad (200))), (1, .int (x)), (2, .int (y)), (3, .int (v))]) hx hb dX4_mount_73 hl (by decide) rfl (fun ls hl => ?_)
              refine lv_aload_n hx hb dX4_mount_75 rfl (lv_at hl 1 rfl) ?_
              refine lv_iload hx hb dX4_mount_76 (lv_at hl 0 rfl) ?_
              refine lv_if_eq (tgt := 85) hx hb dX4_mount_78 (by decide) (fun c_9 => ?_) (fun c_9 => absurd (by decide) c_9)
              refine lv_aload_n hx hb dX4_mount_85 rfl (lv_at hl 1 rfl) ?_
              refine mt_get S iw_X4 hC hW wc_200 rfl 9 (by decide) mw_fl_X4_67 rfl rfl dX4_mount_86 ?_
              refine lv_bipush (v := 8) hx hb dX4_mount_89 (by decide) ?_
              refine lv_icmp_ne (tgt := 98) hx hb dX4_mount_91 (by decide) (fun c_10 => ?_) (fun c_10 => ?_)
              · refine lv_iconst (v := 0) hx hb dX4_mount_98 (by decide) ?_
                refine mt_put S iw_X4 tyX4 tyX4_ok nmX4 hC hW hS wc_200 rfl 15 (by decide) mw_fl_X4_44 rfl rfl rfl rfl (Nat.le_of_ble_eq_true rfl) dX4_mount_99 (fun H locs hW hS => ?_)
                have hW := hW.to (w1 := mt_wc g ad lc mc bc (mt_gu N 200 15 0) G o d) (wc_sett (by decide))
                refine lv_aload_n hx hb dX4_mount_102 rfl (lv_at hl 1 rfl) ?_
                refine mt_get S iw_X4 hC hW wc_200 rfl 15 (by decide) mw_fl_X4_44 rfl rfl dX4_mount_103 ?_
                refine mt_te (y := 0) rfl ?_
                refine lv_if_le (tgt := 111) hx hb dX4_mount_106 (by decide) (fun c_11 => ?_) (fun c_11 => absurd (by decide) c_11)
                refine lv_aload_n hx hb dX4_mount_111 rfl (lv_at hl 1 rfl) ?_
                refine mt_get S iw_X4 hC hW wc_200 rfl 4 (by decide) mw_fl_X4_19 rfl rfl dX4_mount_112 ?_
                refine lv_aload_n hx hb dX4_mount_115 rfl (lv_at hl 1 rfl) ?_
                refine mt_get S iw_X4 hC hW wc_200 rfl 9 (by decide) mw_fl_X4_67 rfl rfl dX4_mount_116 ?_
                refine mt_te (y := N 200 9) rfl ?_
                refine lv_iload_n hx hb dX4_mount_119 rfl (lv_at hl 2 rfl) ?_
                refine wk_iast S hC hW hS ar_205 (vp_new hM c_10) dX4_mount_120 (fun H locs hW hS => ?_)
                refine lv_aload_n hx hb dX4_mount_121 rfl (lv_at hl 1 rfl) ?_
                refine mt_get S iw_X4 hC hW wc_200 rfl 5 (by decide) mw_fl_X4_22 rfl rfl dX4_mount_122 ?_
                refine lv_aload_n hx hb dX4_mount_125 rfl (lv_at hl 1 rfl) ?_
                refine mt_get S iw_X4 hC hW wc_200 rfl 9 (by decide) mw_fl_X4_67 rfl rfl dX4_mount_126 ?_
                refine mt_te (y := N 200 9) rfl ?_
                refine lv_iload_n hx hb dX4_mount_129 rfl (lv_at hl 3 rfl) ?_
                refine wk_iast S hC hW hS ar_206 (vp_new hM c_10) dX4_mount_130 (fun H locs hW hS => ?_)
                refine lv_aload_n hx hb dX4_mount_131 rfl (lv_at hl 1 rfl) ?_
                refine mt_get S iw_X4 hC hW wc_200 rfl 6 (by decide) mw_fl_X4_25 rfl rfl dX4_mount_132 ?_
                refine lv_aload_n hx hb dX4_mount_135 rfl (lv_at hl 1 rfl) ?_
                refine mt_get S iw_X4 hC hW wc_200 rfl 9 (by decide) mw_fl_X4_67 rfl rfl dX4_mount_136 ?_
                refine mt_te (y := N 200 9) rfl ?_
                refine lv_iload_n hx hb dX4_mount_139 rfl (lv_at hl 4 rfl) ?_
                refine wk_iast S hC hW hS ar_207 (vp_new hM c_10) dX4_mount_140 (fun H locs hW hS => ?_)
                refine lv_aload_n hx hb dX4_mount_141 rfl (lv_at hl 1 rfl) ?_
                refine mt_get S iw_X4 hC hW wc_200 rfl 7 (by decide) mw_fl_X4_28 rfl rfl dX4_mount_142 ?_
                refine lv_aload_n hx hb dX4_mount_145 rfl (lv_at hl 1 rfl) ?_
                refine mt_get S iw_X4 hC hW wc_200 rfl 9 (by decide) mw_fl_X4_67 rfl rfl dX4_mount_146 ?_
                refine mt_te (y := N 200 9) rfl ?_
                refine lv_iconst (v := 1) hx hb dX4_mount_149 (by decide) ?_
                refine wk_zast S hC hW hS ar_208 (vp_new hM c_10) rfl dX4_mount_150 (fun H locs hW hS => ?_)
                refine lv_aload_n hx hb dX4_mount_151 rfl (lv_at hl 1 rfl) ?_
                refine mt_get S iw_X4 hC hW wc_200 rfl 8 (by decide) mw_fl_X4_32 rfl rfl dX4_mount_152 ?_
                refine lv_aload_n hx hb dX4_mount_155 rfl (lv_at hl 1 rfl) ?_
                refine mt_get S iw_X4 hC hW wc_200 rfl 9 (by decide) mw_fl_X4_67 rfl rfl dX4_mount_156 ?_
                refine mt_te (y := N 200 9) rfl ?_
                refine lv_iconst (v := 0) hx hb dX4_mount_159 (by decide) ?_
                refine wk_zast S hC hW hS ar_209 (vp_new hM c_10) rfl dX4_mount_160 (fun H locs hW hS => ?_)
                refine lv_aload_n hx hb dX4_mount_161 rfl (lv_at hl 1 rfl) ?_
                refine lv_dup hx hb dX4_mount_162 rfl ?_
                refine mt_get S iw_X4 hC hW wc_200 rfl 9 (by decide) mw_fl_X4_67 rfl rfl dX4_mount_163 ?_
                refine mt_te (y := N 200 9) rfl ?_
                refine lv_iconst (v := 1) hx hb dX4_mount_166 (by decide) ?_
                refine lv_iadd hx hb dX4_mount_167 ?_
                refine mt_put S iw_X4 tyX4 tyX4_ok nmX4 hC hW hS wc_200 rfl 9 (by decide) mw_fl_X4_67 rfl rfl rfl rfl (Nat.le_of_ble_eq_true rfl) dX4_mount_168 (fun H locs hW hS => ?_)
                have hW := hW.to (w1 := mt_wc g ad lc mc bc (mt_gu (mt_gu N 200 15 0) 200 9 ((N 200 9) + 1)) (mt_gu (mt_gu (mt_gu (mt_gu (mt_gu G 205 (N 200 9).toNatClampNeg x) 206 (N 200 9).toNatClampNeg y) 207 (N 200 9).toNatClampNeg v) 208 (N 200 9).toNatClampNeg 1) 209 (N 200 9).toNatClampNeg 0) o d) (wc_sett (by decide))
                refine lv_aload_n hx hb dX4_mount_171 rfl (lv_at hl 1 rfl) ?_
                refine mt_get S iw_X4 hC hW wc_200 rfl 9 (by decide) mw_fl_X4_67 rfl rfl dX4_mount_172 ?_
                refine mt_te (y := (N 200 9) + 1) rfl ?_
                refine lv_iconst (v := 1) hx hb dX4_mount_175 (by decide) ?_
                refine lv_isub hx hb dX4_mount_176 ?_
                have hW := hW.to (w1 := mt_wc g ad lc mc bc (c_X4_mount_N lc mc bc N G x y v) (c_X4_mount_G lc mc bc N G x y v) o d) (by rw [c_X4_mount_N, if_neg c_1, if_neg c_2, if_neg c_3, if_pos c_4, if_pos c_5, if_pos c_8, if_neg c_10, c_X4_mount_G, if_neg c_1, if_neg c_2, if_neg c_3, if_pos c_4, if_pos c_5, if_pos c_8, if_neg c_10])
                exact mt_ri S hr hk hW hS (by rw [c_X4_mount, if_neg c_1, if_neg c_2, if_neg c_3, if_pos c_4, if_pos c_5, if_pos c_8, if_neg c_10]) (Nat.le_of_ble_eq_true rfl) (Nat.le_of_ble_eq_true rfl) dX4_mount_177
              · refine lv_iconst (v := 4) hx hb dX4_mount_94 (by decide) ?_
                refine lv_goto (tgt := 99) hx hb dX4_mount_95 (by decide) ?_
                refine mt_put S iw_X4 tyX4 tyX4_ok nmX4 hC hW hS wc_200 rfl 15 (by decide) mw_fl_X4_44 rfl rfl rfl rfl (Nat.le_of_ble_eq_true rfl) dX4_mount_99 (fun H locs hW hS => ?_)
                have hW := hW.to (w1 := mt_wc g ad lc mc bc (mt_gu N 200 15 4) G o d) (wc_sett (by decide))
                refine lv_aload_n hx hb dX4_mount_102 rfl (lv_at hl 1 rfl) ?_
                refine mt_get S iw_X4 hC hW wc_200 rfl 15 (by decide) mw_fl_X4_44 rfl rfl dX4_mount_103 ?_
                refine mt_te (y := 4) rfl ?_
                refine lv_if_le (tgt := 111) hx hb dX4_mount_106 (by decide) (fun c_12 => absurd c_12 (by decide)) (fun c_12 => ?_)
                refine lv_iconst (v := -1) hx hb dX4_mount_109 (by decide) ?_
                have hW := hW.to (w1 := mt_wc g ad lc mc bc (c_X4_mount_N lc mc bc N G x y v) (c_X4_mount_G lc mc bc N G x y v) o d) (by rw [c_X4_mount_N, if_neg c_1, if_neg c_2, if_neg c_3, if_pos c_4, if_pos c_5, if_pos c_8, if_pos c_10, c_X4_mount_G, if_neg c_1, if_neg c_2, if_neg c_3, if_pos c_4, if_pos c_5, if_pos c_8, if_pos c_10])
                exact mt_ri S hr hk hW hS (by rw [c_X4_mount, if_neg c_1, if_neg c_2, if_neg c_3, if_pos c_4, if_pos c_5, if_pos c_8, if_pos c_10]) (Nat.le_of_ble_eq_true rfl) (Nat.le_of_ble_eq_true rfl) dX4_mount_110
            · refine lv_aload_n hx hb dX4_mount_60 rfl (lv_at hl 0 rfl) ?_
              refine lv_iload_n hx hb dX4_mount_61 rfl (lv_at hl 3 rfl) ?_
              refine mt_cV1 (As := [.int (v)]) (rest := []) S pv_X4_isUsed mw_ml_X4_80 (k_X4_isUsed l hlt g z ad lc mc bc N G o d h6 h8 hb6 v (by repeat (first | exact hM | exact hP | apply MI_t))) hC hW hS wc_200 rfl rfl rfl hl.1 rfl (Nat.le_of_ble_eq_true rfl) dX4_mount_62 ⟨(Nat.le_of_ble_eq_true rfl), (Nat.le_of_ble_eq_true rfl)⟩ ⟨(Nat.le_of_ble_eq_true rfl), (Nat.le_of_ble_eq_true rfl)⟩ rfl (fun H locs hW hS => ?_)
              refine lv_if_eq (tgt := 72) hx hb dX4_mount_65 (by decide) (fun c_13 => ?_) (fun c_13 => ?_)
              · refine lv_iconst (v := 0) hx hb dX4_mount_72 (by decide) ?_
                refine lv_istore (lv' := [(4, .int (0)), (0, .ref (ad (200))), (1, .int (x)), (2, .int (y)), (3, .int (v))]) hx hb dX4_mount_73 hl (by decide) rfl (fun ls hl => ?_)
                refine lv_aload_n hx hb dX4_mount_75 rfl (lv_at hl 1 rfl) ?_
                refine lv_iload hx hb dX4_mount_76 (lv_at hl 0 rfl) ?_
                refine lv_if_eq (tgt := 85) hx hb dX4_mount_78 (by decide) (fun c_14 => ?_) (fun c_14 => absurd (by decide) c_14)
                refine lv_aload_n hx hb dX4_mount_85 rfl (lv_at hl 1 rfl) ?_
                refine mt_get S iw_X4 hC hW wc_200 rfl 9 (by decide) mw_fl_X4_67 rfl rfl dX4_mount_86 ?_
                refine lv_bipush (v := 8) hx hb dX4_mount_89 (by decide) ?_
                refine lv_icmp_ne (tgt := 98) hx hb dX4_mount_91 (by decide) (fun c_15 => ?_) (fun c_15 => ?_)
                · refine lv_iconst (v := 0) hx hb dX4_mount_98 (by decide) ?_
                  refine mt_put S iw_X4 tyX4 tyX4_ok nmX4 hC hW hS wc_200 rfl 15 (by decide) mw_fl_X4_44 rfl rfl rfl rfl (Nat.le_of_ble_eq_true rfl) dX4_mount_99 (fun H locs hW hS => ?_)
                  have hW := hW.to (w1 := mt_wc g ad lc mc bc (mt_gu N 200 15 0) G o d) (wc_sett (by decide))
                  refine lv_aload_n hx hb dX4_mount_102 rfl (lv_at hl 1 rfl) ?_
                  refine mt_get S iw_X4 hC hW wc_200 rfl 15 (by decide) mw_fl_X4_44 rfl rfl dX4_mount_103 ?_
                  refine mt_te (y := 0) rfl ?_
                  refine lv_if_le (tgt := 111) hx hb dX4_mount_106 (by decide) (fun c_16 => ?_) (fun c_16 => absurd (by decide) c_16)
                  refine lv_aload_n hx hb dX4_mount_111 rfl (lv_at hl 1 rfl) ?_
                  refine mt_get S iw_X4 hC hW wc_200 rfl 4 (by decide) mw_fl_X4_19 rfl rfl dX4_mount_112 ?_
                  refine lv_aload_n hx hb dX4_mount_115 rfl (lv_at hl 1 rfl) ?_
                  refine mt_get S iw_X4 hC hW wc_200 rfl 9 (by decide) mw_fl_X4_67 rfl rfl dX4_mount_116 ?_
                  refine mt_te (y := N 200 9) rfl ?_
                  refine lv_iload_n hx hb dX4_mount_119 rfl (lv_at hl 2 rfl) ?_
                  refine wk_iast S hC hW hS ar_205 (vp_new hM c_15) dX4_mount_120 (fun H locs hW hS => ?_)
                  refine lv_aload_n hx hb dX4_mount_121 rfl (lv_at hl 1 rfl) ?_
                  refine mt_get S iw_X4 hC hW wc_200 rfl 5 (by decide) mw_fl_X4_22 rfl rfl dX4_mount_122 ?_
                  refine lv_aload_n hx hb dX4_mount_125 rfl (lv_at hl 1 rfl) ?_
                  refine mt_get S iw_X4 hC hW wc_200 rfl 9 (by decide) mw_fl_X4_67 rfl rfl dX4_mount_126 ?_
                  refine mt_te (y := N 200 9) rfl ?_
                  refine lv_iload_n hx hb dX4_mount_129 rfl (lv_at hl 3 rfl) ?_
                  refine wk_iast S hC hW hS ar_206 (vp_new hM c_15) dX4_mount_130 (fun H locs hW hS => ?_)
                  refine lv_aload_n hx hb dX4_mount_131 rfl (lv_at hl 1 rfl) ?_
                  refine mt_get S iw_X4 hC hW wc_200 rfl 6 (by decide) mw_fl_X4_25 rfl rfl dX4_mount_132 ?_
                  refine lv_aload_n hx hb dX4_mount_135 rfl (lv_at hl 1 rfl) ?_
                  refine mt_get S iw_X4 hC hW wc_200 rfl 9 (by decide) mw_fl_X4_67 rfl rfl dX4_mount_136 ?_
                  refine mt_te (y := N 200 9) rfl ?_
                  refine lv_iload_n hx hb dX4_mount_139 rfl (lv_at hl 4 rfl) ?_
                  refine wk_iast S hC hW hS ar_207 (vp_new hM c_15) dX4_mount_140 (fun H locs hW hS => ?_)
                  refine lv_aload_n hx hb dX4_mount_141 rfl (lv_at hl 1 rfl) ?_
                  refine mt_get S iw_X4 hC hW wc_200 rfl 7 (by decide) mw_fl_X4_28 rfl rfl dX4_mount_142 ?_
                  refine lv_aload_n hx hb dX4_mount_145 rfl (lv_at hl 1 rfl) ?_
                  refine mt_get S iw_X4 hC hW wc_200 rfl 9 (by decide) mw_fl_X4_67 rfl rfl dX4_mount_146 ?_
                  refine mt_te (y := N 200 9) rfl ?_
                  refine lv_iconst (v := 1) hx hb dX4_mount_149 (by decide) ?_
                  refine wk_zast S hC hW hS ar_208 (vp_new hM c_15) rfl dX4_mount_150 (fun H locs hW hS => ?_)
                  refine lv_aload_n hx hb dX4_mount_151 rfl (lv_at hl 1 rfl) ?_
                  refine mt_get S iw_X4 hC hW wc_200 rfl 8 (by decide) mw_fl_X4_32 rfl rfl dX4_mount_152 ?_
                  refine lv_aload_n hx hb dX4_mount_155 rfl (lv_at hl 1 rfl) ?_
                  refine mt_get S iw_X4 hC hW wc_200 rfl 9 (by decide) mw_fl_X4_67 rfl rfl dX4_mount_156 ?_
                  refine mt_te (y := N 200 9) rfl ?_
                  refine lv_iconst (v := 0) hx hb dX4_mount_159 (by decide) ?_
                  refine wk_zast S hC hW hS ar_209 (vp_new hM c_15) rfl dX4_mount_160 (fun H locs hW hS => ?_)
                  refine lv_aload_n hx hb dX4_mount_161 rfl (lv_at hl 1 rfl) ?_
                  refine lv_dup hx hb dX4_mount_162 rfl ?_
                  refine mt_get S iw_X4 hC hW wc_200 rfl 9 (by decide) mw_fl_X4_67 rfl rfl dX4_mount_163 ?_
                  refine mt_te (y := N 200 9) rfl ?_
                  refine lv_iconst (v := 1) hx hb dX4_mount_166 (by decide) ?_
                  refine lv_iadd hx hb dX4_mount_167 ?_
                  refine mt_put S iw_X4 tyX4 tyX4_ok nmX4 hC hW hS wc_200 rfl 9 (by decide) mw_fl_X4_67 rfl rfl rfl rfl (Nat.le_of_ble_eq_true rfl) dX4_mount_168 (fun H locs hW hS => ?_)
                  have hW := hW.to (w1 := mt_wc g ad lc mc bc (mt_gu (mt_gu N 200 15 0) 200 9 ((N 200 9) + 1)) (mt_gu (mt_gu (mt_gu (mt_gu (mt_gu G 205 (N 200 9).toNatClampNeg x) 206 (N 200 9).toNatClampNeg y) 207 (N 200 9).toNatClampNeg v) 208 (N 200 9).toNatClampNeg 1) 209 (N 200 9).toNatClampNeg 0) o d) (wc_sett (by decide))
                  refine lv_aload_n hx hb dX4_mount_171 rfl (lv_at hl 1 rfl) ?_
                  refine mt_get S iw_X4 hC hW wc_200 rfl 9 (by decide) mw_fl_X4_67 rfl rfl dX4_mount_172 ?_
                  refine mt_te (y := (N 200 9) + 1) rfl ?_
                  refine lv_iconst (v := 1) hx hb dX4_mount_175 (by decide) ?_
                  refine lv_isub hx hb dX4_mount_176 ?_
                  have hW := hW.to (w1 := mt_wc g ad lc mc bc (c_X4_mount_N lc mc bc N G x y v) (c_X4_mount_G lc mc bc N G x y v) o d) (by rw [c_X4_mount_N, if_neg c_1, if_neg c_2, if_neg c_3, if_pos c_4, if_pos c_5, if_neg c_8, if_pos c_13, if_neg c_15, c_X4_mount_G, if_neg c_1, if_neg c_2, if_neg c_3, if_pos c_4, if_pos c_5, if_neg c_8, if_pos c_13, if_neg c_15])
                  exact mt_ri S hr hk hW hS (by rw [c_X4_mount, if_neg c_1, if_neg c_2, if_neg c_3, if_pos c_4, if_pos c_5, if_neg c_8, if_pos c_13, if_neg c_15]) (Nat.le_of_ble_eq_true rfl) (Nat.le_of_ble_eq_true rfl) dX4_mount_177
                · refine lv_iconst (v := 4) hx hb dX4_mount_94 (by decide) ?_
                  refine lv_goto (tgt := 99) hx hb dX4_mount_95 (by decide) ?_
                  refine mt_put S iw_X4 tyX4 tyX4_ok nmX4 hC hW hS wc_200 rfl 15 (by decide) mw_fl_X4_44 rfl rfl rfl rfl (Nat.le_of_ble_eq_true rfl) dX4_mount_99 (fun H locs hW hS => ?_)
                  have hW := hW.to (w1 := mt_wc g ad lc mc bc (mt_gu N 200 15 4) G o d) (wc_sett (by decide))
                  refine lv_aload_n hx hb dX4_mount_102 rfl (lv_at hl 1 rfl) ?_
                  refine mt_get S iw_X4 hC hW wc_200 rfl 15 (by decide) mw_fl_X4_44 rfl rfl dX4_mount_103 ?_
                  refine mt_te (y := 4) rfl ?_
                  refine lv_if_le (tgt := 111) hx hb dX4_mount_106 (by decide) (fun c_17 => absurd c_17 (by decide)) (fun c_17 => ?_)
                  refine lv_iconst (v := -1) hx hb dX4_mount_109 (by decide) ?_
                  have hW := hW.to (w1 := mt_wc g ad lc mc bc (c_X4_mount_N lc mc bc N G x y v) (c_X4_mount_G lc mc bc N G x y v) o d) (by rw [c_X4_mount_N, if_neg c_1, if_neg c_2, if_neg c_3, if_pos c_4, if_pos c_5, if_neg c_8, if_pos c_13, if_pos c_15, c_X4_mount_G, if_neg c_1, if_neg c_2, if_neg c_3, if_pos c_4, if_pos c_5, if_neg c_8, if_pos c_13, if_pos c_15])
                  exact mt_ri S hr hk hW hS (by rw [c_X4_mount, if_neg c_1, if_neg c_2, if_neg c_3, if_pos c_4, if_pos c_5, if_neg c_8, if_pos c_13, if_pos c_15]) (Nat.le_of_ble_eq_true rfl) (Nat.le_of_ble_eq_true rfl) dX4_mount_110
              · refine lv_iconst (v := 1) hx hb dX4_mount_68 (by decide) ?_
                refine lv_goto (tgt := 73) hx hb dX4_mount_69 (by decide) ?_
                refine lv_istore (lv' := [(4, .int (1)), (0, .ref (ad (200))), (1, .int (x)), (2, .int (y)), (3, .int (v))]) hx hb dX4_mount_73 hl (by decide) rfl (fun ls hl => ?_)
                refine lv_aload_n hx hb dX4_mount_75 rfl (lv_at hl 1 rfl) ?_
                refine lv_iload hx hb dX4_mount_76 (lv_at hl 0 rfl) ?_
                refine lv_if_eq (tgt := 85) hx hb dX4_mount_78 (by decide) (fun c_18 => absurd c_18 (by decide)) (fun c_18 => ?_)
                refine lv_iconst (v := 3) hx hb dX4_mount_81 (by decide) ?_
                refine lv_goto (tgt := 99) hx hb dX4_mount_82 (by decide) ?_
                refine mt_put S iw_X4 tyX4 tyX4_ok nmX4 hC hW hS wc_200 rfl 15 (by decide) mw_fl_X4_44 rfl rfl rfl rfl (Nat.le_of_ble_eq_true rfl) dX4_mount_99 (fun H locs hW hS => ?_)
                have hW := hW.to (w1 := mt_wc g ad lc mc bc (mt_gu N 200 15 3) G o d) (wc_sett (by decide))
                refine lv_aload_n hx hb dX4_mount_102 rfl (lv_at hl 1 rfl) ?_
                refine mt_get S iw_X4 hC hW wc_200 rfl 15 (by decide) mw_fl_X4_44 rfl rfl dX4_mount_103 ?_
                refine mt_te (y := 3) rfl ?_
                refine lv_if_le (tgt := 111) hx hb dX4_mount_106 (by decide) (fun c_19 => absurd c_19 (by decide)) (fun c_19 => ?_)
                refine lv_iconst (v := -1) hx hb dX4_mount_109 (by decide) ?_
                have hW := hW.to (w1 := mt_wc g ad lc mc bc (c_X4_mount_N lc mc bc N G x y v) (c_X4_mount_G lc mc bc N G x y v) o d) (by rw [c_X4_mount_N, if_neg c_1, if_neg c_2, if_neg c_3, if_pos c_4, if_pos c_5, if_neg c_8, if_neg c_13, c_X4_mount_G, if_neg c_1, if_neg c_2, if_neg c_3, if_pos c_4, if_pos c_5, if_neg c_8, if_neg c_13])
                exact mt_ri S hr hk hW hS (by rw [c_X4_mount, if_neg c_1, if_neg c_2, if_neg c_3, if_pos c_4, if_pos c_5, if_neg c_8, if_neg c_13]) (Nat.le_of_ble_eq_true rfl) (Nat.le_of_ble_eq_true rfl) dX4_mount_110
        · refine lv_aload_n hx hb dX4_mount_32 rfl (lv_at hl 0 rfl) ?_
          refine lv_iload_n hx hb dX4_mount_33 rfl (lv_at hl 3 rfl) ?_
          refine mt_cV1 (As := [.int (v)]) (rest := []) S pv_X4_isLayer mw_ml_X4_74 (k_X4_isLayer l hlt g z ad lc mc bc N G o d h6 h8 hb6 v) hC hW hS wc_200 rfl rfl rfl hl.1 rfl (Nat.le_of_ble_eq_true rfl) dX4_mount_34 ⟨(Nat.le_of_ble_eq_true rfl), (Nat.le_of_ble_eq_true rfl)⟩ ⟨(Nat.le_of_ble_eq_true rfl), (Nat.le_of_ble_eq_true rfl)⟩ rfl (fun H locs hW hS => ?_)
          refine lv_if_ne (tgt := 47) hx hb dX4_mount_37 (by decide) (fun c_20 => ?_) (fun c_20 => ?_)
          · refine lv_aload_n hx hb dX4_mount_47 rfl (lv_at hl 0 rfl) ?_
            refine lv_iload_n hx hb dX4_mount_48 rfl (lv_at hl 2 rfl) ?_
            refine mt_cV1 (As := [.int (y)]) (rest := []) S pv_X4_isUpper mw_ml_X4_77 (k_X4_isUpper l hlt g z ad lc mc bc N G o d h6 h8 hb6 y (by repeat (first | exact hM | exact hP | apply MI_t))) hC hW hS wc_200 rfl rfl rfl hl.1 rfl (Nat.le_of_ble_eq_true rfl) dX4_mount_49 ⟨(Nat.le_of_ble_eq_true rfl), (Nat.le_of_ble_eq_true rfl)⟩ ⟨(Nat.le_of_ble_eq_true rfl), (Nat.le_of_ble_eq_true rfl)⟩ rfl (fun H locs hW hS => ?_)
            refine lv_if_ne (tgt := 68) hx hb dX4_mount_52 (by decide) (fun c_21 => ?_) (fun c_21 => ?_)
            · refine lv_iconst (v := 1) hx hb dX4_mount_68 (by decide) ?_
              refine lv_goto (tgt := 73) hx hb dX4_mount_69 (by decide) ?_
              refine lv_istore (lv' := [(4, .int (1)), (0, .ref (ad (200))), (1, .int (x)), (2, .int (y)), (3, .int (v))]) hx hb dX4_mount_73 hl (by decide) rfl (fun ls hl => ?_)
              refine lv_aload_n hx hb dX4_mount_75 rfl (lv_at hl 1 rfl) ?_
              refine lv_iload hx hb dX4_mount_76 (lv_at hl 0 rfl) ?_
              refine lv_if_eq (tgt := 85) hx hb dX4_mount_78 (by decide) (fun c_22 => absurd c_22 (by decide)) (fun c_22 => ?_)
              refine lv_iconst (v := 3) hx hb dX4_mount_81 (by decide) ?_
              refine lv_goto (tgt := 99) hx hb dX4_mount_82 (by decide) ?_
              refine mt_put S iw_X4 tyX4 tyX4_ok nmX4 hC hW hS wc_200 rfl 15 (by decide) mw_fl_X4_44 rfl rfl rfl rfl (Nat.le_of_ble_eq_true rfl) dX4_mount_99 (fun H locs hW hS => ?_)
              have hW := hW.to (w1 := mt_wc g ad lc mc bc (mt_gu N 200 15 3) G o d) (wc_sett (by decide))
              refine lv_aload_n hx hb dX4_mount_102 rfl (lv_at hl 1 rfl) ?_
              refine mt_get S iw_X4 hC hW wc_200 rfl 15 (by decide) mw_fl_X4_44 rfl rfl dX4_mount_103 ?_
              refine mt_te (y := 3) rfl ?_
              refine lv_if_le (tgt := 111) hx hb dX4_mount_106 (by decide) (fun c_23 => absurd c_23 (by decide)) (fun c_23 => ?_)
              refine lv_iconst (v := -1) hx hb dX4_mount_109 (by decide) ?_
              have hW := hW.to (w1 := mt_wc g ad lc mc bc (c_X4_mount_N lc mc bc N G x y v) (c_X4_mount_G lc mc bc N G x y v) o d) (by rw [c_X4_mount_N, if_neg c_1, if_neg c_2, if_neg c_3, if_neg c_4, if_neg c_20, if_neg c_21, c_X4_mount_G, if_neg c_1, if_neg c_2, if_neg c_3, if_neg c_4, if_neg c_20, if_neg c_21])
              exact mt_ri S hr hk hW hS (by rw [c_X4_mount, if_neg c_1, if_neg c_2, if_neg c_3, if_neg c_4, if_neg c_20, if_neg c_21]) (Nat.le_of_ble_eq_true rfl) (Nat.le_of_ble_eq_true rfl) dX4_mount_110
            · refine lv_iload_n hx hb dX4_mount_55 rfl (lv_at hl 3 rfl) ?_
              refine lv_iconst (v := -1) hx hb dX4_mount_56 (by decide) ?_
              refine lv_icmp_eq (tgt := 72) hx hb dX4_mount_57 (by decide) (fun c_24 => ?_) (fun c_24 => ?_)
              · refine lv_iconst (v := 0) hx hb dX4_mount_72 (by decide) ?_
                refine lv_istore (lv' := [(4, .int (0)), (0, .ref (ad (200))), (1, .int (x)), (2, .int (y)), (3, .int (v))]) hx hb dX4_mount_73 hl (by decide) rfl (fun ls hl => ?_)
                refine lv_aload_n hx hb dX4_mount_75 rfl (lv_at hl 1 rfl) ?_
                refine lv_iload hx hb dX4_mount_76 (lv_at hl 0 rfl) ?_
                refine lv_if_eq (tgt := 85) hx hb dX4_mount_78 (by decide) (fun c_25 => ?_) (fun c_25 => absurd (by decide) c_25)
                refine lv_aload_n hx hb dX4_mount_85 rfl (lv_at hl 1 rfl) ?_
                refine mt_get S iw_X4 hC hW wc_200 rfl 9 (by decide) mw_fl_X4_67 rfl rfl dX4_mount_86 ?_
                refine lv_bipush (v := 8) hx hb dX4_mount_89 (by decide) ?_
                refine lv_icmp_ne (tgt := 98) hx hb dX4_mount_91 (by decide) (fun c_26 => ?_) (fun c_26 => ?_)
                · refine lv_iconst (v := 0) hx hb dX4_mount_98 (by decide) ?_
                  refine mt_put S iw_X4 tyX4 tyX4_ok nmX4 hC hW hS wc_200 rfl 15 (by decide) mw_fl_X4_44 rfl rfl rfl rfl (Nat.le_of_ble_eq_true rfl) dX4_mount_99 (fun H locs hW hS => ?_)
                  have hW := hW.to (w1 := mt_wc g ad lc mc bc (mt_gu N 200 15 0) G o d) (wc_sett (by decide))
                  refine lv_aload_n hx hb dX4_mount_102 rfl (lv_at hl 1 rfl) ?_
                  refine mt_get S iw_X4 hC hW wc_200 rfl 15 (by decide) mw_fl_X4_44 rfl rfl dX4_mount_103 ?_
                  refine mt_te (y := 0) rfl ?_
                  refine lv_if_le (tgt := 111) hx hb dX4_mount_106 (by decide) (fun c_27 => ?_) (fun c_27 => absurd (by decide) c_27)
                  refine lv_aload_n hx hb dX4_mount_111 rfl (lv_at hl 1 rfl) ?_
                  refine mt_get S iw_X4 hC hW wc_200 rfl 4 (by decide) mw_fl_X4_19 rfl rfl dX4_mount_112 ?_
                  refine lv_aload_n hx hb dX4_mount_115 rfl (lv_at hl 1 rfl) ?_
                  refine mt_get S iw_X4 hC hW wc_200 rfl 9 (by decide) mw_fl_X4_67 rfl rfl dX4_mount_116 ?_
                  refine mt_te (y := N 200 9) rfl ?_
                  refine lv_iload_n hx hb dX4_mount_119 rfl (lv_at hl 2 rfl) ?_
                  refine wk_iast S hC hW hS ar_205 (vp_new hM c_26) dX4_mount_120 (fun H locs hW hS => ?_)
                  refine lv_aload_n hx hb dX4_mount_121 rfl (lv_at hl 1 rfl) ?_
                  refine mt_get S iw_X4 hC hW wc_200 rfl 5 (by decide) mw_fl_X4_22 rfl rfl dX4_mount_122 ?_
                  refine lv_aload_n hx hb dX4_mount_125 rfl (lv_at hl 1 rfl) ?_
                  refine mt_get S iw_X4 hC hW wc_200 rfl 9 (by decide) mw_fl_X4_67 rfl rfl dX4_mount_126 ?_
                  refine mt_te (y := N 200 9) rfl ?_
                  refine lv_iload_n hx hb dX4_mount_129 rfl (lv_at hl 3 rfl) ?_
                  refine wk_iast S hC hW hS ar_206 (vp_new hM c_26) dX4_mount_130 (fun H locs hW hS => ?_)
                  refine lv_aload_n hx hb dX4_mount_131 rfl (lv_at hl 1 rfl) ?_
                  refine mt_get S iw_X4 hC hW wc_200 rfl 6 (by decide) mw_fl_X4_25 rfl rfl dX4_mount_132 ?_
                  refine lv_aload_n hx hb dX4_mount_135 rfl (lv_at hl 1 rfl) ?_
                  refine mt_get S iw_X4 hC hW wc_200 rfl 9 (by decide) mw_fl_X4_67 rfl rfl dX4_mount_136 ?_
                  refine mt_te (y := N 200 9) rfl ?_
                  refine lv_iload_n hx hb dX4_mount_139 rfl (lv_at hl 4 rfl) ?_
                  refine wk_iast S hC hW hS ar_207 (vp_new hM c_26) dX4_mount_140 (fun H locs hW hS => ?_)
                  refine lv_aload_n hx hb dX4_mount_141 rfl (lv_at hl 1 rfl) ?_
                  refine mt_get S iw_X4 hC hW wc_200 rfl 7 (by decide) mw_fl_X4_28 rfl rfl dX4_mount_142 ?_
                  refine lv_aload_n hx hb dX4_mount_145 rfl (lv_at hl 1 rfl) ?_
                  refine mt_get S iw_X4 hC hW wc_200 rfl 9 (by decide) mw_fl_X4_67 rfl rfl dX4_mount_146 ?_
                  refine mt_te (y := N 200 9) rfl ?_
                  refine lv_iconst (v := 1) hx hb dX4_mount_149 (by decide) ?_
                  refine wk_zast S hC hW hS ar_208 (vp_new hM c_26) rfl dX4_mount_150 (fun H locs hW hS => ?_)
                  refine lv_aload_n hx hb dX4_mount_151 rfl (lv_at hl 1 rfl) ?_
                  refine mt_get S iw_X4 hC hW wc_200 rfl 8 (by decide) mw_fl_X4_32 rfl rfl dX4_mount_152 ?_
                  refine lv_aload_n hx hb dX4_mount_155 rfl (lv_at hl 1 rfl) ?_
                  refine mt_get S iw_X4 hC hW wc_200 rfl 9 (by decide) mw_fl_X4_67 rfl rfl dX4_mount_156 ?_
                  refine mt_te (y := N 200 9) rfl ?_
                  refine lv_iconst (v := 0) hx hb dX4_mount_159 (by decide) ?_
                  refine wk_zast S hC hW hS ar_209 (vp_new hM c_26) rfl dX4_mount_160 (fun H locs hW hS => ?_)
                  refine lv_aload_n hx hb dX4_mount_161 rfl (lv_at hl 1 rfl) ?_
                  refine lv_dup hx hb dX4_mount_162 rfl ?_
                  refine mt_get S iw_X4 hC hW wc_200 rfl 9 (by decide) mw_fl_X4_67 rfl rfl dX4_mount_163 ?_
                  refine mt_te (y := N 200 9) rfl ?_
                  refine lv_iconst (v := 1) hx hb dX4_mount_166 (by decide) ?_
                  refine lv_iadd hx hb dX4_mount_167 ?_
                  refine mt_put S iw_X4 tyX4 tyX4_ok nmX4 hC hW hS wc_200 rfl 9 (by decide) mw_fl_X4_67 rfl rfl rfl rfl (Nat.le_of_ble_eq_true rfl) dX4_mount_168 (fun H locs hW hS => ?_)
                  have hW := hW.to (w1 := mt_wc g ad lc mc bc (mt_gu (mt_gu N 200 15 0) 200 9 ((N 200 9) + 1)) (mt_gu (mt_gu (mt_gu (mt_gu (mt_gu G 205 (N 200 9).toNatClampNeg x) 206 (N 200 9).toNatClampNeg y) 207 (N 200 9).toNatClampNeg v) 208 (N 200 9).toNatClampNeg 1) 209 (N 200 9).toNatClampNeg 0) o d) (wc_sett (by decide))
                  refine lv_aload_n hx hb dX4_mount_171 rfl (lv_at hl 1 rfl) ?_
                  refine mt_get S iw_X4 hC hW wc_200 rfl 9 (by decide) mw_fl_X4_67 rfl rfl dX4_mount_172 ?_
                  refine mt_te (y := (N 200 9) + 1) rfl ?_
                  refine lv_iconst (v := 1) hx hb dX4_mount_175 (by decide) ?_
                  refine lv_isub hx hb dX4_mount_176 ?_
                  have hW := hW.to (w1 := mt_wc g ad lc mc bc (c_X4_mount_N lc mc bc N G x y v) (c_X4_mount_G lc mc bc N G x y v) o d) (by rw [c_X4_mount_N, if_neg c_1, if_neg c_2, if_neg c_3, if_neg c_4, if_neg c_20, if_pos c_21, if_pos c_24, if_neg c_26, c_X4_mount_G, if_neg c_1, if_neg c_2, if_neg c_3, if_neg c_4, if_neg c_20, if_pos c_21, if_pos c_24, if_neg c_26])
                  exact mt_ri S hr hk hW hS (by rw [c_X4_mount, if_neg c_1, if_neg c_2, if_neg c_3, if_neg c_4, if_neg c_20, if_pos c_21, if_pos c_24, if_neg c_26]) (Nat.le_of_ble_eq_true rfl) (Nat.le_of_ble_eq_true rfl) dX4_mount_177
                · refine lv_iconst (v := 4) hx hb dX4_mount_94 (by decide) ?_
                  refine lv_goto (tgt := 99) hx hb dX4_mount_95 (by decide) ?_
                  refine mt_put S iw_X4 tyX4 tyX4_ok nmX4 hC hW hS wc_200 rfl 15 (by decide) mw_fl_X4_44 rfl rfl rfl rfl (Nat.le_of_ble_eq_true rfl) dX4_mount_99 (fun H locs hW hS => ?_)
                  have hW := hW.to (w1 := mt_wc g ad lc mc bc (mt_gu N 200 15 4) G o d) (wc_sett (by decide))
                  refine lv_aload_n hx hb dX4_mount_102 rfl (lv_at hl 1 rfl) ?_
                  refine mt_get S iw_X4 hC hW wc_200 rfl 15 (by decide) mw_fl_X4_44 rfl rfl dX4_mount_103 ?_
                  refine mt_te (y := 4) rfl ?_
                  refine lv_if_le (tgt := 111) hx hb dX4_mount_106 (by decide) (fun c_28 => absurd c_28 (by decide)) (fun c_28 => ?_)
                  refine lv_iconst (v := -1) hx hb dX4_mount_109 (by decide) ?_
                  have hW := hW.to (w1 := mt_wc g ad lc mc bc (c_X4_mount_N lc mc bc N G x y v) (c_X4_mount_G lc mc bc N G x y v) o d) (by rw [c_X4_mount_N, if_neg c_1, if_neg c_2, if_neg c_3, if_neg c_4, if_neg c_20, if_pos c_21, if_pos c_24, if_pos c_26, c_X4_mount_G, if_neg c_1, if_neg c_2, if_neg c_3, if_neg c_4, if_neg c_20, if_pos c_21, if_pos c_24, if_pos c_26])
                  exact mt_ri S hr hk hW hS (by rw [c_X4_mount, if_neg c_1, if_neg c_2, if_neg c_3, if_neg c_4, if_neg c_20, if_pos c_21, if_pos c_24, if_pos c_26]) (Nat.le_of_ble_eq_true rfl) (Nat.le_of_ble_eq_true rfl) dX4_mount_110
              · refine lv_aload_n hx hb dX4_mount_60 rfl (lv_at hl 0 rfl) ?_
                refine lv_iload_n hx hb dX4_mount_61 rfl (lv_at hl 3 rfl) ?_
                refine mt_cV1 (As := [.int (v)]) (rest := []) S pv_X4_isUsed mw_ml_X4_80 (k_X4_isUsed l hlt g z ad lc mc bc N G o d h6 h8 hb6 v (by repeat (first | exact hM | exact hP | apply MI_t))) hC hW hS wc_200 rfl rfl rfl hl.1 rfl (Nat.le_of_ble_eq_true rfl) dX4_mount_62 ⟨(Nat.le_of_ble_eq_true rfl), (Nat.le_of_ble_eq_true rfl)⟩ ⟨(Nat.le_of_ble_eq_true rfl), (Nat.le_of_ble_eq_true rfl)⟩ rfl (fun H locs hW hS => ?_)
                refine lv_if_eq (tgt := 72) hx hb dX4_mount_65 (by decide) (fun c_29 => ?_) (fun c_29 => ?_)
                · refine lv_iconst (v := 0) hx hb dX4_mount_72 (by decide) ?_
                  refine lv_istore (lv' := [(4, .int (0)), (0, .ref (ad (200))), (1, .int (x)), (2, .int (y)), (3, .int (v))]) hx hb dX4_mount_73 hl (by decide) rfl (fun ls hl => ?_)
                  refine lv_aload_n hx hb dX4_mount_75 rfl (lv_at hl 1 rfl) ?_
                  refine lv_iload hx hb dX4_mount_76 (lv_at hl 0 rfl) ?_
                  refine lv_if_eq (tgt := 85) hx hb dX4_mount_78 (by decide) (fun c_30 => ?_) (fun c_30 => absurd (by decide) c_30)
                  refine lv_aload_n hx hb dX4_mount_85 rfl (lv_at hl 1 rfl) ?_
                  refine mt_get S iw_X4 hC hW wc_200 rfl 9 (by decide) mw_fl_X4_67 rfl rfl dX4_mount_86 ?_
                  refine lv_bipush (v := 8) hx hb dX4_mount_89 (by decide) ?_
                  refine lv_icmp_ne (tgt := 98) hx hb dX4_mount_91 (by decide) (fun c_31 => ?_) (fun c_31 => ?_)
                  · refine lv_iconst (v := 0) hx hb dX4_mount_98 (by decide) ?_
                    refine mt_put S iw_X4 tyX4 tyX4_ok nmX4 hC hW hS wc_200 rfl 15 (by decide) mw_fl_X4_44 rfl rfl rfl rfl (Nat.le_of_ble_eq_true rfl) dX4_mount_99 (fun H locs hW hS => ?_)
                    have hW := hW.to (w1 := mt_wc g ad lc mc bc (mt_gu N 200 15 0) G o d) (wc_sett (by decide))
                    refine lv_aload_n hx hb dX4_mount_102 rfl (lv_at hl 1 rfl) ?_
                    refine mt_get S iw_X4 hC hW wc_200 rfl 15 (by decide) mw_fl_X4_44 rfl rfl dX4_mount_103 ?_
                    refine mt_te (y := 0) rfl ?_
                    refine lv_if_le (tgt := 111) hx hb dX4_mount_106 (by decide) (fun c_32 => ?_) (fun c_32 => absurd (by decide) c_32)
                    refine lv_aload_n hx hb dX4_mount_111 rfl (lv_at hl 1 rfl) ?_
                    refine mt_get S iw_X4 hC hW wc_200 rfl 4 (by decide) mw_fl_X4_19 rfl rfl dX4_mount_112 ?_
                    refine lv_aload_n hx hb dX4_mount_115 rfl (lv_at hl 1 rfl) ?_
                    refine mt_get S iw_X4 hC hW wc_200 rfl 9 (by decide) mw_fl_X4_67 rfl rfl dX4_mount_116 ?_
                    refine mt_te (y := N 200 9) rfl ?_
                    refine lv_iload_n hx hb dX4_mount_119 rfl (lv_at hl 2 rfl) ?_
                    refine wk_iast S hC hW hS ar_205 (vp_new hM c_31) dX4_mount_120 (fun H locs hW hS => ?_)
                    refine lv_aload_n hx hb dX4_mount_121 rfl (lv_at hl 1 rfl) ?_
                    refine mt_get S iw_X4 hC hW wc_200 rfl 5 (by decide) mw_fl_X4_22 rfl rfl dX4_mount_122 ?_
                    refine lv_aload_n hx hb dX4_mount_125 rfl (lv_at hl 1 rfl) ?_
                    refine mt_get S iw_X4 hC hW wc_200 rfl 9 (by decide) mw_fl_X4_67 rfl rfl dX4_mount_126 ?_
                    refine mt_te (y := N 200 9) rfl ?_
                    refine lv_iload_n hx hb dX4_mount_129 rfl (lv_at hl 3 rfl) ?_
                    refine wk_iast S hC hW hS ar_206 (vp_new hM c_31) dX4_mount_130 (fun H locs hW hS => ?_)
                    refine lv_aload_n hx hb dX4_mount_131 rfl (lv_at hl 1 rfl) ?_
                    refine mt_get S iw_X4 hC hW wc_200 rfl 6 (by decide) mw_fl_X4_25 rfl rfl dX4_mount_132 ?_
                    refine lv_aload_n hx hb dX4_mount_135 rfl (lv_at hl 1 rfl) ?_
                    refine mt_get S iw_X4 hC hW wc_200 rfl 9 (by decide) mw_fl_X4_67 rfl rfl dX4_mount_136 ?_
                    refine mt_te (y := N 200 9) rfl ?_
                    refine lv_iload_n hx hb dX4_mount_139 rfl (lv_at hl 4 rfl) ?_
                    refine wk_iast S hC hW hS ar_207 (vp_new hM c_31) dX4_mount_140 (fun H locs hW hS => ?_)
                    refine lv_aload_n hx hb dX4_mount_141 rfl (lv_at hl 1 rfl) ?_
                    refine mt_get S iw_X4 hC hW wc_200 rfl 7 (by decide) mw_fl_X4_28 rfl rfl dX4_mount_142 ?_
                    refine lv_aload_n hx hb dX4_mount_145 rfl (lv_at hl 1 rfl) ?_
                    refine mt_get S iw_X4 hC hW wc_200 rfl 9 (by decide) mw_fl_X4_67 rfl rfl dX4_mount_146 ?_
                    refine mt_te (y := N 200 9) rfl ?_
                    refine lv_iconst (v := 1) hx hb dX4_mount_149 (by decide) ?_
                    refine wk_zast S hC hW hS ar_208 (vp_new hM c_31) rfl dX4_mount_150 (fun H locs hW hS => ?_)
                    refine lv_aload_n hx hb dX4_mount_151 rfl (lv_at hl 1 rfl) ?_
                    refine mt_get S iw_X4 hC hW wc_200 rfl 8 (by decide) mw_fl_X4_32 rfl rfl dX4_mount_152 ?_
                    refine lv_aload_n hx hb dX4_mount_155 rfl (lv_at hl 1 rfl) ?_
                    refine mt_get S iw_X4 hC hW wc_200 rfl 9 (by decide) mw_fl_X4_67 rfl rfl dX4_mount_156 ?_
                    refine mt_te (y := N 200 9) rfl ?_
                    refine lv_iconst (v := 0) hx hb dX4_mount_159 (by decide) ?_
                    refine wk_zast S hC hW hS ar_209 (vp_new hM c_31) rfl dX4_mount_160 (fun H locs hW hS => ?_)
                    refine lv_aload_n hx hb dX4_mount_161 rfl (lv_at hl 1 rfl) ?_
                    refine lv_dup hx hb dX4_mount_162 rfl ?_
                    refine mt_get S iw_X4 hC hW wc_200 rfl 9 (by decide) mw_fl_X4_67 rfl rfl dX4_mount_163 ?_
                    refine mt_te (y := N 200 9) rfl ?_
                    refine lv_iconst (v := 1) hx hb dX4_mount_166 (by decide) ?_
                    refine lv_iadd hx hb dX4_mount_167 ?_
                    refine mt_put S iw_X4 tyX4 tyX4_ok nmX4 hC hW hS wc_200 rfl 9 (by decide) mw_fl_X4_67 rfl rfl rfl rfl (Nat.le_of_ble_eq_true rfl) dX4_mount_168 (fun H locs hW hS => ?_)
                    have hW := hW.to (w1 := mt_wc g ad lc mc bc (mt_gu (mt_gu N 200 15 0) 200 9 ((N 200 9) + 1)) (mt_gu (mt_gu (mt_gu (mt_gu (mt_gu G 205 (N 200 9).toNatClampNeg x) 206 (N 200 9).toNatClampNeg y) 207 (N 200 9).toNatClampNeg v) 208 (N 200 9).toNatClampNeg 1) 209 (N 200 9).toNatClampNeg 0) o d) (wc_sett (by decide))
                    refine lv_aload_n hx hb dX4_mount_171 rfl (lv_at hl 1 rfl) ?_
                    refine mt_get S iw_X4 hC hW wc_200 rfl 9 (by decide) mw_fl_X4_67 rfl rfl dX4_mount_172 ?_
                    refine mt_te (y := (N 200 9) + 1) rfl ?_
                    refine lv_iconst (v := 1) hx hb dX4_mount_175 (by decide) ?_
                    refine lv_isub hx hb dX4_mount_176 ?_
                    have hW := hW.to (w1 := mt_wc g ad lc mc bc (c_X4_mount_N lc mc bc N G x y v) (c_X4_mount_G lc mc bc N G x y v) o d) (by rw [c_X4_mount_N, if_neg c_1, if_neg c_2, if_neg c_3, if_neg c_4, if_neg c_20, if_pos c_21, if_neg c_24, if_pos c_29, if_neg c_31, c_X4_mount_G, if_neg c_1, if_neg c_2, if_neg c_3, if_neg c_4, if_neg c_20, if_pos c_21, if_neg c_24, if_pos c_29, if_neg c_31])
                    exact mt_ri S hr hk hW hS (by rw [c_X4_mount, if_neg c_1, if_neg c_2, if_neg c_3, if_neg c_4, if_neg c_20, if_pos c_21, if_neg c_24, if_pos c_29, if_neg c_31]) (Nat.le_of_ble_eq_true rfl) (Nat.le_of_ble_eq_true rfl) dX4_mount_177
                  · refine lv_iconst (v := 4) hx hb dX4_mount_94 (by decide) ?_
                    refine lv_goto (tgt := 99) hx hb dX4_mount_95 (by decide) ?_
                    refine mt_put S iw_X4 tyX4 tyX4_ok nmX4 hC hW hS wc_200 rfl 15 (by decide) mw_fl_X4_44 rfl rfl rfl rfl (Nat.le_of_ble_eq_true rfl) dX4_mount_99 (fun H locs hW hS => ?_)
                    have hW := hW.to (w1 := mt_wc g ad lc mc bc (mt_gu N 200 15 4) G o d) (wc_sett (by decide))
                    refine lv_aload_n hx hb dX4_mount_102 rfl (lv_at hl 1 rfl) ?_
                    refine mt_get S iw_X4 hC hW wc_200 rfl 15 (by decide) mw_fl_X4_44 rfl rfl dX4_mount_103 ?_
                    refine mt_te (y := 4) rfl ?_
                    refine lv_if_le (tgt := 111) hx hb dX4_mount_106 (by decide) (fun c_33 => absurd c_33 (by decide)) (fun c_33 => ?_)
                    refine lv_iconst (v := -1) hx hb dX4_mount_109 (by decide) ?_
                    have hW := hW.to (w1 := mt_wc g ad lc mc bc (c_X4_mount_N lc mc bc N G x y v) (c_X4_mount_G lc mc bc N G x y v) o d) (by rw [c_X4_mount_N, if_neg c_1, if_neg c_2, if_neg c_3, if_neg c_4, if_neg c_20, if_pos c_21, if_neg c_24, if_pos c_29, if_pos c_31, c_X4_mount_G, if_neg c_1, if_neg c_2, if_neg c_3, if_neg c_4, if_neg c_20, if_pos c_21, if_neg c_24, if_pos c_29, if_pos c_31])
                    exact mt_ri S hr hk hW hS (by rw [c_X4_mount, if_neg c_1, if_neg c_2, if_neg c_3, if_neg c_4, if_neg c_20, if_pos c_21, if_neg c_24, if_pos c_29, if_pos c_31]) (Nat.le_of_ble_eq_true rfl) (Nat.le_of_ble_eq_true rfl) dX4_mount_110
                · refine lv_iconst (v := 1) hx hb dX4_mount_68 (by decide) ?_
                  refine lv_goto (tgt := 73) hx hb dX4_mount_69 (by decide) ?_
                  refine lv_istore (lv' := [(4, .int (1)), (0, .ref (ad (200))), (1, .int (x)), (2, .int (y)), (3, .int (v))]) hx hb dX4_mount_73 hl (by decide) rfl (fun ls hl => ?_)
                  refine lv_aload_n hx hb dX4_mount_75 rfl (lv_at hl 1 rfl) ?_
                  refine lv_iload hx hb dX4_mount_76 (lv_at hl 0 rfl) ?_
                  refine lv_if_eq (tgt := 85) hx hb dX4_mount_78 (by decide) (fun c_34 => absurd c_34 (by decide)) (fun c_34 => ?_)
                  refine lv_iconst (v := 3) hx hb dX4_mount_81 (by decide) ?_
                  refine lv_goto (tgt := 99) hx hb dX4_mount_82 (by decide) ?_
                  refine mt_put S iw_X4 tyX4 tyX4_ok nmX4 hC hW hS wc_200 rfl 15 (by decide) mw_fl_X4_44 rfl rfl rfl rfl (Nat.le_of_ble_eq_true rfl) dX4_mount_99 (fun H locs hW hS => ?_)
                  have hW := hW.to (w1 := mt_wc g ad lc mc bc (mt_gu N 200 15 3) G o d) (wc_sett (by decide))
                  refine lv_aload_n hx hb dX4_mount_102 rfl (lv_at hl 1 rfl) ?_
                  refine mt_get S iw_X4 hC hW wc_200 rfl 15 (by decide) mw_fl_X4_44 rfl rfl dX4_mount_103 ?_
                  refine mt_te (y := 3) rfl ?_
                  refine lv_if_le (tgt := 111) hx hb dX4_mount_106 (by decide) (fun c_35 => absurd c_35 (by decide)) (fun c_35 => ?_)
                  refine lv_iconst (v := -1) hx hb dX4_mount_109 (by decide) ?_
                  have hW := hW.to (w1 := mt_wc g ad lc mc bc (c_X4_mount_N lc mc bc N G x y v) (c_X4_mount_G lc mc bc N G x y v) o d) (by rw [c_X4_mount_N, if_neg c_1, if_neg c_2, if_neg c_3, if_neg c_4, if_neg c_20, if_pos c_21, if_neg c_24, if_neg c_29, c_X4_mount_G, if_neg c_1, if_neg c_2, if_neg c_3, if_neg c_4, if_neg c_20, if_pos c_21, if_neg c_24, if_neg c_29])
                  exact mt_ri S hr hk hW hS (by rw [c_X4_mount, if_neg c_1, if_neg c_2, if_neg c_3, if_neg c_4, if_neg c_20, if_pos c_21, if_neg c_24, if_neg c_29]) (Nat.le_of_ble_eq_true rfl) (Nat.le_of_ble_eq_true rfl) dX4_mount_110
          · refine lv_aload_n hx hb dX4_mount_40 rfl (lv_at hl 0 rfl) ?_
            refine lv_iconst (v := 2) hx hb dX4_mount_41 (by decide) ?_
            refine mt_put S iw_X4 tyX4 tyX4_ok nmX4 hC hW hS wc_200 rfl 15 (by decide) mw_fl_X4_44 rfl rfl rfl rfl (Nat.le_of_ble_eq_true rfl) dX4_mount_42 (fun H locs hW hS => ?_)
            have hW := hW.to (w1 := mt_wc g ad lc mc bc (mt_gu N 200 15 2) G o d) (wc_sett (by decide))
            refine lv_iconst (v := -1) hx hb dX4_mount_45 (by decide) ?_
            have hW := hW.to (w1 := mt_wc g ad lc mc bc (c_X4_mount_N lc mc bc N G x y v) (c_X4_mount_G lc mc bc N G x y v) o d) (by rw [c_X4_mount_N, if_neg c_1, if_neg c_2, if_neg c_3, if_neg c_4, if_pos c_20, c_X4_mount_G, if_neg c_1, if_neg c_2, if_neg c_3, if_neg c_4, if_pos c_20])
            exact mt_ri S hr hk hW hS (by rw [c_X4_mount, if_neg c_1, if_neg c_2, if_neg c_3, if_neg c_4, if_pos c_20]) (Nat.le_of_ble_eq_true rfl) (Nat.le_of_ble_eq_true rfl) dX4_mount_46
    · refine lv_aload_n hx hb dX4_mount_12 rfl (lv_at hl 0 rfl) ?_
      refine lv_iconst (v := 1) hx hb dX4_mount_13 (by decide) ?_
      refine mt_put S iw_X4 tyX4 tyX4_ok nmX4 hC hW hS wc_200 rfl 15 (by decide) mw_fl_X4_44 rfl rfl rfl rfl (Nat.le_of_ble_eq_true rfl) dX4_mount_14 (fun H locs hW hS => ?_)
      have hW := hW.to (w1 := mt_wc g ad lc mc bc (mt_gu N 200 15 1) G o d) (wc_sett (by decide))
      refine lv_iconst (v := -1) hx hb dX4_mount_17 (by decide) ?_
      have hW := hW.to (w1 := mt_wc g ad lc mc bc (c_X4_mount_N lc mc bc N G x y v) (c_X4_mount_G lc mc bc N G x y v) o d) (by rw [c_X4_mount_N, if_neg c_1, if_pos c_2, c_X4_mount_G, if_neg c_1, if_pos c_2])
      exact mt_ri S hr hk hW hS (by rw [c_X4_mount, if_neg c_1, if_pos c_2]) (Nat.le_of_ble_eq_true rfl) (Nat.le_of_ble_eq_true rfl) dX4_mount_18
def c_X4_unmount_ls (G : Nat → Nat → Int32) (x : Int32) : Nat → Int32
  | 0 => 0
  | k + 1 => if (G 208 k) = 0 then ((c_X4_unmount_ls G x k) + 0) else ((c_X4_unmount_ls G x k) + 1)
def c_X4_unmount (lc mc bc : Nat) (N G : Nat → Nat → Int32) (x : Int32) : Int32 := if (c_X4_isMount lc mc bc N G x) = 0 then (-1) else (c_X4_unmount_ls (mt_gu G 208 x.toNatClampNeg 0) x (mqN N))
def c_X4_unmount_G (lc mc bc : Nat) (N G : Nat → Nat → Int32) (x : Int32) : Nat → Nat → Int32 := if (c_X4_isMount lc mc bc N G x) = 0 then G else (mt_gu G 208 x.toNatClampNeg 0)
def c_X4_unmount_N (lc mc bc : Nat) (N G : Nat → Nat → Int32) (x : Int32) : Nat → Nat → Int32 := if (c_X4_isMount lc mc bc N G x) = 0 then (mt_gu N 200 15 1) else (mt_gu N 200 15 0)
set_option maxRecDepth 100000 in
set_option maxHeartbeats 4000000 in
theorem k_X4_unmount (l : Launch) (hlt : l.stackTraces = false) (g : mt_G) (z : Nat) (ad : Nat → Nat) (lc mc bc : Nat) (N G : Nat → Nat → Int32) (o : Nat → Int64) (d : mt_D) (h6 : lc ≤ 6) (h8 : mc ≤ 8) (hb6 : bc ≤ 6) (x : Int32) (hM : MI N G) : mt_K l g z yX4_unmount cX4_unmount 4 (some .int) 2 46 0 0 [.ref (ad (200)), .int x] (mt_wc g ad lc mc bc N G o d) ad (.inr (some (.int (c_X4_unmount lc mc bc N G x)))) (mt_wc g ad lc mc bc (c_X4_unmount_N lc mc bc N G x) (c_X4_unmount_G lc mc bc N G x) o d) ad := by
  refine mt_ofW (by decide +kernel) (Nat.le_of_ble_eq_true rfl) ?_
  intro p e s m args below meth c S hr9 hk hnm hout hC hW hS ls hl
  have hr := hr9
  have hx := S.1
  have hb := S.2.1
  have hl : lv_has ls 4 [(0, .ref (ad (200))), (1, .int (x))] := hl
  refine lv_aload_n hx hb dX4_unmount_0 rfl (lv_at hl 0 rfl) ?_
  refine lv_aload_n hx hb dX4_unmount_1 rfl (lv_at hl 0 rfl) ?_
  refine lv_iload_n hx hb dX4_unmount_2 rfl (lv_at hl 1 rfl) ?_
  refine mt_cV1 (As := [.int (x)]) (rest := [.ref (ad (200))]) S pv_X4_isMount mw_ml_X4_83 (k_X4_isMount l hlt g z ad lc mc bc N G o d h6 h8 hb6 x (by repeat (first | exact hM | exact hP | apply MI_t))) hC hW hS wc_200 rfl rfl rfl hl.1 rfl (Nat.le_of_ble_eq_true rfl) dX4_unmount_3 ⟨(Nat.le_of_ble_eq_true rfl), (Nat.le_of_ble_eq_true rfl)⟩ ⟨(Nat.le_of_ble_eq_true rfl), (Nat.le_of_ble_eq_true rfl)⟩ rfl (fun H locs hW hS => ?_)
  refine lv_if_eq (tgt := 13) hx hb dX4_unmount_6 (by decide) (fun c_1 => ?_) (fun c_1 => ?_)
  · refine lv_iconst (v := 1) hx hb dX4_unmount_13 (by decide) ?_
    refine mt_put S iw_X4 tyX4 tyX4_ok nmX4 hC hW hS wc_200 rfl 15 (by decide) mw_fl_X4_44 rfl rfl rfl rfl (Nat.le_of_ble_eq_true rfl) dX4_unmount_14 (fun H locs hW hS => ?_)
    have hW := hW.to (w1 := mt_wc g ad lc mc bc (mt_gu N 200 15 1) G o d) (wc_sett (by decide))
    refine lv_aload_n hx hb dX4_unmount_17 rfl (lv_at hl 0 rfl) ?_
    refine mt_get S iw_X4 hC hW wc_200 rfl 15 (by decide) mw_fl_X4_44 rfl rfl dX4_unmount_18 ?_
    refine mt_te (y := 1) rfl ?_
    refine lv_if_le (tgt := 26) hx hb dX4_unmount_21 (by decide) (fun c_2 => absurd c_2 (by decide)) (fun c_2 => ?_)
    refine lv_iconst (v := -1) hx hb dX4_unmount_24 (by decide) ?_
    have hW := hW.to (w1 := mt_wc g ad lc mc bc (c_X4_unmount_N lc mc bc N G x) (c_X4_unmount_G lc mc bc N G x) o d) (by rw [c_X4_unmount_N, if_pos c_1, c_X4_unmount_G, if_pos c_1])
    exact mt_ri S hr hk hW hS (by rw [c_X4_unmount, if_pos c_1]) (Nat.le_of_ble_eq_true rfl) (Nat.le_of_ble_eq_true rfl) dX4_unmount_25
  · refine lv_iconst (v := 0) hx hb dX4_unmount_9 (by decide) ?_
    refine lv_goto (tgt := 14) hx hb dX4_unmount_10 (by decide) ?_
    refine mt_put S iw_X4 tyX4 tyX4_ok nmX4 hC hW hS wc_200 rfl 15 (by decide) mw_fl_X4_44 rfl rfl rfl rfl (Nat.le_of_ble_eq_true rfl) dX4_unmount_14 (fun H locs hW hS => ?_)
    have hW := hW.to (w1 := mt_wc g ad lc mc bc (mt_gu N 200 15 0) G o d) (wc_sett (by decide))
    refine lv_aload_n hx hb dX4_unmount_17 rfl (lv_at hl 0 rfl) ?_
    refine mt_get S iw_X4 hC hW wc_200 rfl 15 (by decide) mw_fl_X4_44 rfl rfl dX4_unmount_18 ?_
    refine mt_te (y := 0) rfl ?_
    refine lv_if_le (tgt := 26) hx hb dX4_unmount_21 (by decide) (fun c_3 => ?_) (fun c_3 => absurd (by decide) c_3)
    refine lv_aload_n hx hb dX4_unmount_26 rfl (lv_at hl 0 rfl) ?_
    refine mt_get S iw_X4 hC hW wc_200 rfl 7 (by decide) mw_fl_X4_28 rfl rfl dX4_unmount_27 ?_
    refine lv_iload_n hx hb dX4_unmount_30 rfl (lv_at hl 1 rfl) ?_
    refine lv_iconst (v := 0) hx hb dX4_unmount_31 (by decide) ?_
    refine wk_zast S hC hW hS ar_208 (vp_m hM (im_m hM c_1)) rfl dX4_unmount_32 (fun H locs hW hS => ?_)
    refine lv_iconst (v := 0) hx hb dX4_unmount_33 (by decide) ?_
    refine lv_istore_n (lv' := [(2, .int (0)), (0, .ref (ad (200))), (1, .int (x))]) hx hb dX4_unmount_34 rfl hl (by decide) rfl (fun ls hl => ?_)
    refine lv_iconst (v := 0) hx hb dX4_unmount_35 (by decide) ?_
    refine lv_istore_n (lv' := [(3, .int (0)), (2, .int (0)), (0, .ref (ad (200))), (1, .int (x))]) hx hb dX4_unmount_36 rfl hl (by decide) rfl (fun ls hl => ?_)
    have hl : lv_has ls 4 [(3, .int (nI 0)), (2, .int (c_X4_unmount_ls (mt_gu G 208 x.toNatClampNeg 0) x 0)), (0, .ref (ad (200))), (1, .int (x))] := lv_sub hl [0, 1, 2, 3] rfl
    refine lp_up (mqN N) (fun k => mt_wc g ad lc mc bc (mt_gu N 200 15 0) (mt_gu G 208 x.toNatClampNeg 0) o d) (fun k => [(3, .int (nI k)), (2, .int (c_X4_unmount_ls (mt_gu G 208 x.toNatClampNeg 0) x k)), (0, .ref (ad (200))), (1, .int (x))]) (fun _ => True) 0 (by omega) trivial hW hS hl (fun H locs ls hP hW hS hl => ?_) (fun k H locs ls hk0 hkn hP hW hS hl ih => ?_)
    · have hW : mt_W g z (mt_wc g ad lc mc bc (mt_gu N 200 15 0) (mt_gu G 208 x.toNatClampNeg 0) o d) ad _ := hW
      have hl : lv_has ls 4 [(3, .int (nI (mqN N))), (2, .int (c_X4_unmount_ls (mt_gu G 208 x.toNatClampNeg 0) x (mqN N))), (0, .ref (ad (200))), (1, .int (x))] := hl
      refine lv_iload_n hx hb dX4_unmount_37 rfl (lv_at hl 0 rfl) ?_
      refine lv_aload_n hx hb dX4_unmount_38 rfl (lv_at hl 2 rfl) ?_
      refine mt_get S iw_X4 hC hW wc_200 rfl 9 (by decide) mw_fl_X4_67 rfl rfl dX4_unmount_39 ?_
      refine mt_te (y := N 200 9) rfl ?_
      refine lv_icmp_ge (tgt := 68) hx hb dX4_unmount_42 (by decide) (fun c_4 => ?_) (fun c_4 => absurd pwx_e c_4)
      refine lv_iload_n hx hb dX4_unmount_68 rfl (lv_at hl 1 rfl) ?_
      have hW := hW.to (w1 := mt_wc g ad lc mc bc (c_X4_unmount_N lc mc bc N G x) (c_X4_unmount_G lc mc bc N G x) o d) (by rw [c_X4_unmount_N, if_neg c_1, c_X4_unmount_G, if_neg c_1])
      exact mt_ri S hr hk hW hS (by rw [c_X4_unmount, if_neg c_1]) (Nat.le_of_ble_eq_true rfl) (Nat.le_of_ble_eq_true rfl) dX4_unmount_69
    · have hW : mt_W g z (mt_wc g ad lc mc bc (mt_gu N 200 15 0) (mt_gu G 208 x.toNatClampNeg 0) o d) ad _ := hW
      have hl : lv_has ls 4 [(3, .int (nI k)), (2, .int (c_X4_unmount_ls (mt_gu G 208 x.toNatClampNeg 0) x k)), (0, .ref (ad (200))), (1, .int (x))] := hl
      refine lv_iload_n hx hb dX4_unmount_37 rfl (lv_at hl 0 rfl) ?_
      refine lv_aload_n hx hb dX4_unmount_38 rfl (lv_at hl 2 rfl) ?_
      refine mt_get S iw_X4 hC hW wc_200 rfl 9 (by decide) mw_fl_X4_67 rfl rfl dX4_unmount_39 ?_
      refine mt_te (y := N 200 9) rfl ?_
      refine lv_icmp_ge (tgt := 68) hx hb dX4_unmount_42 (by decide) (fun c_5 => absurd c_5 (pwx_b hkn)) (fun c_5 => ?_)
      refine lv_iload_n hx hb dX4_unmount_45 rfl (lv_at hl 1 rfl) ?_
      refine lv_aload_n hx hb dX4_unmount_46 rfl (lv_at hl 2 rfl) ?_
      refine mt_get S iw_X4 hC hW wc_200 rfl 7 (by decide) mw_fl_X4_28 rfl rfl dX4_unmount_47 ?_
      refine lv_iload_n hx hb dX4_unmount_50 rfl (lv_at hl 0 rfl) ?_
      refine wk_zaln S hC hW ar_208 k rfl (by have := hM.2.1; omega) (by decide) dX4_unmount_51 ?_
      refine lv_if_eq (tgt := 59) hx hb dX4_unmount_52 (by decide) (fun c_6 => ?_) (fun c_6 => ?_)
      · refine lv_iconst (v := 0) hx hb dX4_unmount_59 (by decide) ?_
        refine lv_iadd hx hb dX4_unmount_60 ?_
        refine lv_istore_n (lv' := [(2, .int ((c_X4_unmount_ls (mt_gu G 208 x.toNatClampNeg 0) x k) + 0)), (3, .int (nI k)), (0, .ref (ad (200))), (1, .int (x))]) hx hb dX4_unmount_61 rfl hl (by decide) rfl (fun ls hl => ?_)
        refine lv_iinc (v := nI (k + 1)) (lv' := [(3, .int (nI (k + 1))), (2, .int ((c_X4_unmount_ls (mt_gu G 208 x.toNatClampNeg 0) x k) + 0)), (0, .ref (ad (200))), (1, .int (x))]) hx hb dX4_unmount_62 hl (k := 1) rfl (nI_1 _) (by decide) rfl (fun ls hl => ?_)
        refine lv_goto (tgt := 37) hx hb dX4_unmount_65 (by decide) ?_
        have hl : lv_has ls 4 [(3, .int (nI (k + 1))), (2, .int (c_X4_unmount_ls (mt_gu G 208 x.toNatClampNeg 0) x (k + 1))), (0, .ref (ad (200))), (1, .int (x))] := by rw [show c_X4_unmount_ls (mt_gu G 208 x.toNatClampNeg 0) x (k + 1) = (c_X4_unmount_ls (mt_gu G 208 x.toNatClampNeg 0) x k) + 0 from (by rw [c_X4_unmount_ls, if_pos c_6])]; exact lv_sub hl [0, 1, 2, 3] rfl
        exact ih _ _ _ trivial hW hS hl
      · refine lv_iconst (v := 1) hx hb dX4_unmount_55 (by decide) ?_
        refine lv_goto (tgt := 60) hx hb dX4_unmount_56 (by decide) ?_
        refine lv_iadd hx hb dX4_unmount_60 ?_
        refine lv_istore_n (lv' := [(2, .int ((c_X4_unmount_ls (mt_gu G 208 x.toNatClampNeg 0) x k) + 1)), (3, .int (nI k)), (0, .ref (ad (200))), (1, .int (x))]) hx hb dX4_unmount_61 rfl hl (by decide) rfl (fun ls hl => ?_)
        refine lv_iinc (v := nI (k + 1)) (lv' := [(3, .int (nI (k + 1))), (2, .int ((c_X4_unmount_ls (mt_gu G 208 x.toNatClampNeg 0) x k) + 1)), (0, .ref (ad (200))), (1, .int (x))]) hx hb dX4_unmount_62 hl (k := 1) rfl (nI_1 _) (by decide) rfl (fun ls hl => ?_)
        refine lv_goto (tgt := 37) hx hb dX4_unmount_65 (by decide) ?_
        have hl : lv_has ls 4 [(3, .int (nI (k + 1))), (2, .int (c_X4_unmount_ls (mt_gu G 208 x.toNatClampNeg 0) x (k + 1))), (0, .ref (ad (200))), (1, .int (x))] := by rw [show c_X4_unmount_ls (mt_gu G 208 x.toNatClampNeg 0) x (k + 1) = (c_X4_unmount_ls (mt_gu G 208 x.toNatClampNeg 0) x k) + 1 from (by rw [c_X4_unmount_ls, if_neg c_6])]; exact lv_sub hl [0, 1, 2, 3] rfl
        exact ih _ _ _ trivial hW hS hl
def c_X4_move (lc mc bc : Nat) (N G : Nat → Nat → Int32) (x : Int32) (y : Int32) : Int32 := if (c_X4_isMount lc mc bc N G x) = 0 then (-1) else (if (c_X4_isPath y) = 0 then (-1) else (G 205 x.toNatClampNeg))
def c_X4_move_G (lc mc bc : Nat) (N G : Nat → Nat → Int32) (x : Int32) (y : Int32) : Nat → Nat → Int32 := if (c_X4_isMount lc mc bc N G x) = 0 then G else (if (c_X4_isPath y) = 0 then G else (mt_gu G 205 x.toNatClampNeg y))
def c_X4_move_N (lc mc bc : Nat) (N G : Nat → Nat → Int32) (x : Int32) (y : Int32) : Nat → Nat → Int32 := if (c_X4_isMount lc mc bc N G x) = 0 then (mt_gu N 200 15 1) else (if (c_X4_isPath y) = 0 then (mt_gu N 200 15 2) else (mt_gu N 200 15 0))
set_option maxRecDepth 100000 in
set_option maxHeartbeats 4000000 in
theorem k_X4_move (l : Launch) (hlt : l.stackTraces = false) (g : mt_G) (z : Nat) (ad : Nat → Nat) (lc mc bc : Nat) (N G : Nat → Nat → Int32) (o : Nat → Int64) (d : mt_D) (h6 : lc ≤ 6) (h8 : mc ≤ 8) (hb6 : bc ≤ 6) (x : Int32) (y : Int32) (hM : MI N G) : mt_K l g z yX4_move cX4_move 4 (some .int) 2 47 0 0 [.ref (ad (200)), .int x, .int y] (mt_wc g ad lc mc bc N G o d) ad (.inr (some (.int (c_X4_move lc mc bc N G x y)))) (mt_wc g ad lc mc bc (c_X4_move_N lc mc bc N G x y) (c_X4_move_G lc mc bc N G x y) o d) ad := by
  refine mt_ofW (by decide +kernel) (Nat.le_of_ble_eq_true rfl) ?_
  intro p e s m args below meth c S hr9 hk hnm hout hC hW hS ls hl
  have hr := hr9
  have hx := S.1
  have hb := S.2.1
  have hl : lv_has ls 4 [(0, .ref (ad (200))), (1, .int (x)), (2, .int (y))] := hl
  refine lv_aload_n hx hb dX4_move_0 rfl (lv_at hl 0 rfl) ?_
  refine lv_aload_n hx hb dX4_move_1 rfl (lv_at hl 0 rfl) ?_
  refine lv_iload_n hx hb dX4_move_2 rfl (lv_at hl 1 rfl) ?_
  refine mt_cV1 (As := [.int (x)]) (rest := [.ref (ad (200))]) S pv_X4_isMount mw_ml_X4_83 (k_X4_isMount l hlt g z ad lc mc bc N G o d h6 h8 hb6 x (by repeat (first | exact hM | exact hP | apply MI_t))) hC hW hS wc_200 rfl rfl rfl hl.1 rfl (Nat.le_of_ble_eq_true rfl) dX4_move_3 ⟨(Nat.le_of_ble_eq_true rfl), (Nat.le_of_ble_eq_true rfl)⟩ ⟨(Nat.le_of_ble_eq_true rfl), (Nat.le_of_ble_eq_true rfl)⟩ rfl (fun H locs hW hS => ?_)
  refine lv_if_ne (tgt := 13) hx hb dX4_move_6 (by decide) (fun c_1 => ?_) (fun c_1 => ?_)
  · refine lv_iload_n hx hb dX4_move_13 rfl (lv_at hl 2 rfl) ?_
    refine mt_cS1 (As := [.int (y)]) (rest := [.ref (ad (200))]) S ps_X4_isPath mw_ml_X4_70 (k_X4_isPath l hlt g z ad lc mc bc N G o d h6 h8 hb6 y) hC hW hS rfl hl.1 rfl (Nat.le_of_ble_eq_true rfl) dX4_move_14 ⟨(Nat.le_of_ble_eq_true rfl), (Nat.le_of_ble_eq_true rfl)⟩ ⟨(Nat.le_of_ble_eq_true rfl), (Nat.le_of_ble_eq_true rfl)⟩ rfl (fun H locs hW hS => ?_)
    refine lv_if_ne (tgt := 24) hx hb dX4_move_17 (by decide) (fun c_2 => ?_) (fun c_2 => ?_)
    · refine lv_iconst (v := 0) hx hb dX4_move_24 (by decide) ?_
      refine mt_put S iw_X4 tyX4 tyX4_ok nmX4 hC hW hS wc_200 rfl 15 (by decide) mw_fl_X4_44 rfl rfl rfl rfl (Nat.le_of_ble_eq_true rfl) dX4_move_25 (fun H locs hW hS => ?_)
      have hW := hW.to (w1 := mt_wc g ad lc mc bc (mt_gu N 200 15 0) G o d) (wc_sett (by decide))
      refine lv_aload_n hx hb dX4_move_28 rfl (lv_at hl 0 rfl) ?_
      refine mt_get S iw_X4 hC hW wc_200 rfl 15 (by decide) mw_fl_X4_44 rfl rfl dX4_move_29 ?_
      refine mt_te (y := 0) rfl ?_
      refine lv_if_le (tgt := 37) hx hb dX4_move_32 (by decide) (fun c_3 => ?_) (fun c_3 => absurd (by decide) c_3)
      refine lv_aload_n hx hb dX4_move_37 rfl (lv_at hl 0 rfl) ?_
      refine mt_get S iw_X4 hC hW wc_200 rfl 4 (by decide) mw_fl_X4_19 rfl rfl dX4_move_38 ?_
      refine lv_iload_n hx hb dX4_move_41 rfl (lv_at hl 1 rfl) ?_
      refine wk_iald S hC hW ar_205 (vp_m hM (im_m hM c_1)) dX4_move_42 ?_
      refine lv_istore_n (lv' := [(3, .int (G 205 x.toNatClampNeg)), (0, .ref (ad (200))), (1, .int (x)), (2, .int (y))]) hx hb dX4_move_43 rfl hl (by decide) rfl (fun ls hl => ?_)
      refine lv_aload_n hx hb dX4_move_44 rfl (lv_at hl 1 rfl) ?_
      refine mt_get S iw_X4 hC hW wc_200 rfl 4 (by decide) mw_fl_X4_19 rfl rfl dX4_move_45 ?_
      refine lv_iload_n hx hb dX4_move_48 rfl (lv_at hl 2 rfl) ?_
      refine lv_iload_n hx hb dX4_move_49 rfl (lv_at hl 3 rfl) ?_
      refine wk_iast S hC hW hS ar_205 (vp_m hM (im_m hM c_1)) dX4_move_50 (fun H locs hW hS => ?_)
      refine lv_iload_n hx hb dX4_move_51 rfl (lv_at hl 0 rfl) ?_
      have hW := hW.to (w1 := mt_wc g ad lc mc bc (c_X4_move_N lc mc bc N G x y) (c_X4_move_G lc mc bc N G x y) o d) (by rw [c_X4_move_N, if_neg c_1, if_neg c_2, c_X4_move_G, if_neg c_1, if_neg c_2])
      exact mt_ri S hr hk hW hS (by rw [c_X4_move, if_neg c_1, if_neg c_2]) (Nat.le_of_ble_eq_true rfl) (Nat.le_of_ble_eq_true rfl) dX4_move_52
    · refine lv_iconst (v := 2) hx hb dX4_move_20 (by decide) ?_
      refine lv_goto (tgt := 25) hx hb dX4_move_21 (by decide) ?_
      refine mt_put S iw_X4 tyX4 tyX4_ok nmX4 hC hW hS wc_200 rfl 15 (by decide) mw_fl_X4_44 rfl rfl rfl rfl (Nat.le_of_ble_eq_true rfl) dX4_move_25 (fun H locs hW hS => ?_)
      have hW := hW.to (w1 := mt_wc g ad lc mc bc (mt_gu N 200 15 2) G o d) (wc_sett (by decide))
      refine lv_aload_n hx hb dX4_move_28 rfl (lv_at hl 0 rfl) ?_
      refine mt_get S iw_X4 hC hW wc_200 rfl 15 (by decide) mw_fl_X4_44 rfl rfl dX4_move_29 ?_
      refine mt_te (y := 2) rfl ?_
      refine lv_if_le (tgt := 37) hx hb dX4_move_32 (by decide) (fun c_4 => absurd c_4 (by decide)) (fun c_4 => ?_)
      refine lv_iconst (v := -1) hx hb dX4_move_35 (by decide) ?_
      have hW := hW.to (w1 := mt_wc g ad lc mc bc (c_X4_move_N lc mc bc N G x y) (c_X4_move_G lc mc bc N G x y) o d) (by rw [c_X4_move_N, if_neg c_1, if_pos c_2, c_X4_move_G, if_neg c_1, if_pos c_2])
      exact mt_ri S hr hk hW hS (by rw [c_X4_move, if_neg c_1, if_pos c_2]) (Nat.le_of_ble_eq_true rfl) (Nat.le_of_ble_eq_true rfl) dX4_move_36
  · refine lv_iconst (v := 1) hx hb dX4_move_9 (by decide) ?_
    refine lv_goto (tgt := 25) hx hb dX4_move_10 (by decide) ?_
    refine mt_put S iw_X4 tyX4 tyX4_ok nmX4 hC hW hS wc_200 rfl 15 (by decide) mw_fl_X4_44 rfl rfl rfl rfl (Nat.le_of_ble_eq_true rfl) dX4_move_25 (fun H locs hW hS => ?_)
    have hW := hW.to (w1 := mt_wc g ad lc mc bc (mt_gu N 200 15 1) G o d) (wc_sett (by decide))
    refine lv_aload_n hx hb dX4_move_28 rfl (lv_at hl 0 rfl) ?_
    refine mt_get S iw_X4 hC hW wc_200 rfl 15 (by decide) mw_fl_X4_44 rfl rfl dX4_move_29 ?_
    refine mt_te (y := 1) rfl ?_
    refine lv_if_le (tgt := 37) hx hb dX4_move_32 (by decide) (fun c_5 => absurd c_5 (by decide)) (fun c_5 => ?_)
    refine lv_iconst (v := -1) hx hb dX4_move_35 (by decide) ?_
    have hW := hW.to (w1 := mt_wc g ad lc mc bc (c_X4_move_N lc mc bc N G x y) (c_X4_move_G lc mc bc N G x y) o d) (by rw [c_X4_move_N, if_pos c_1, c_X4_move_G, if_pos c_1])
    exact mt_ri S hr hk hW hS (by rw [c_X4_move, if_pos c_1]) (Nat.le_of_ble_eq_true rfl) (Nat.le_of_ble_eq_true rfl) dX4_move_36
def c_X4_setCrossing (lc mc bc : Nat) (N G : Nat → Nat → Int32) (x : Int32) (b : Int32) : Int32 := if (c_X4_isMount lc mc bc N G x) = 0 then 0 else (G 209 x.toNatClampNeg)
def c_X4_setCrossing_G (lc mc bc : Nat) (N G : Nat → Nat → Int32) (x : Int32) (b : Int32) : Nat → Nat → Int32 := if (c_X4_isMount lc mc bc N G x) = 0 then G else (mt_gu G 209 x.toNatClampNeg b)
def c_X4_setCrossing_N (lc mc bc : Nat) (N G : Nat → Nat → Int32) (x : Int32) (b : Int32) : Nat → Nat → Int32 := if (c_X4_isMount lc mc bc N G x) = 0 then (mt_gu N 200 15 1) else (mt_gu N 200 15 0)
set_option maxRecDepth 100000 in
set_option maxHeartbeats 4000000 in
theorem k_X4_setCrossing (l : Launch) (hlt : l.stackTraces = false) (g : mt_G) (z : Nat) (ad : Nat → Nat) (lc mc bc : Nat) (N G : Nat → Nat → Int32) (o : Nat → Int64) (d : mt_D) (h6 : lc ≤ 6) (h8 : mc ≤ 8) (hb6 : bc ≤ 6) (x : Int32) (b : Int32) (hM : MI N G) (hbb : Bo b) : mt_K l g z yX4_setCrossing cX4_setCrossing 4 (some .boolean) 2 46 0 0 [.ref (ad (200)), .int x, .int b] (mt_wc g ad lc mc bc N G o d) ad (.inr (some (.int (c_X4_setCrossing lc mc bc N G x b)))) (mt_wc g ad lc mc bc (c_X4_setCrossing_N lc mc bc N G x b) (c_X4_setCrossing_G lc mc bc N G x b) o d) ad := by
  refine mt_ofW (by decide +kernel) (Nat.le_of_ble_eq_true rfl) ?_
  intro p e s m args below meth c S hr9 hk hnm hout hC hW hS ls hl
  have hr := hr9
  have hx := S.1
  have hb := S.2.1
  have hl : lv_has ls 4 [(0, .ref (ad (200))), (1, .int (x)), (2, .int (b))] := hl
  refine lv_aload_n hx hb dX4_setCrossing_0 rfl (lv_at hl 0 rfl) ?_
  refine lv_aload_n hx hb dX4_setCrossing_1 rfl (lv_at hl 0 rfl) ?_
  refine lv_iload_n hx hb dX4_setCrossing_2 rfl (lv_at hl 1 rfl) ?_
  refine mt_cV1 (As := [.int (x)]) (rest := [.ref (ad (200))]) S pv_X4_isMount mw_ml_X4_83 (k_X4_isMount l hlt g z ad lc mc bc N G o d h6 h8 hb6 x (by repeat (first | exact hM | exact hP | apply MI_t))) hC hW hS wc_200 rfl rfl rfl hl.1 rfl (Nat.le_of_ble_eq_true rfl) dX4_setCrossing_3 ⟨(Nat.le_of_ble_eq_true rfl), (Nat.le_of_ble_eq_true rfl)⟩ ⟨(Nat.le_of_ble_eq_true rfl), (Nat.le_of_ble_eq_true rfl)⟩ rfl (fun H locs hW hS => ?_)
  refine lv_if_eq (tgt := 13) hx hb dX4_setCrossing_6 (by decide) (fun c_1 => ?_) (fun c_1 => ?_)
  · refine lv_iconst (v := 1) hx hb dX4_setCrossing_13 (by decide) ?_
    refine mt_put S iw_X4 tyX4 tyX4_ok nmX4 hC hW hS wc_200 rfl 15 (by decide) mw_fl_X4_44 rfl rfl rfl rfl (Nat.le_of_ble_eq_true rfl) dX4_setCrossing_14 (fun H locs hW hS => ?_)
    have hW := hW.to (w1 := mt_wc g ad lc mc bc (mt_gu N 200 15 1) G o d) (wc_sett (by decide))
    refine lv_aload_n hx hb dX4_setCrossing_17 rfl (lv_at hl 0 rfl) ?_
    refine mt_get S iw_X4 hC hW wc_200 rfl 15 (by decide) mw_fl_X4_44 rfl rfl dX4_setCrossing_18 ?_
    refine mt_te (y := 1) rfl ?_
    refine lv_if_le (tgt := 26) hx hb dX4_setCrossing_21 (by decide) (fun c_2 => absurd c_2 (by decide)) (fun c_2 => ?_)
    refine lv_iconst (v := 0) hx hb dX4_setCrossing_24 (by decide) ?_
    have hW := hW.to (w1 := mt_wc g ad lc mc bc (c_X4_setCrossing_N lc mc bc N G x b) (c_X4_setCrossing_G lc mc bc N G x b) o d) (by rw [c_X4_setCrossing_N, if_pos c_1, c_X4_setCrossing_G, if_pos c_1])
    exact mt_rz S hr hk rfl hW hS (by rw [c_X4_setCrossing, if_pos c_1]) (Nat.le_of_ble_eq_true rfl) (Nat.le_of_ble_eq_true rfl) dX4_setCrossing_25
  · refine lv_iconst (v := 0) hx hb dX4_setCrossing_9 (by decide) ?_
    refine lv_goto (tgt := 14) hx hb dX4_setCrossing_10 (by decide) ?_
    refine mt_put S iw_X4 tyX4 tyX4_ok nmX4 hC hW hS wc_200 rfl 15 (by decide) mw_fl_X4_44 rfl rfl rfl rfl (Nat.le_of_ble_eq_true rfl) dX4_setCrossing_14 (fun H locs hW hS => ?_)
    have hW := hW.to (w1 := mt_wc g ad lc mc bc (mt_gu N 200 15 0) G o d) (wc_sett (by decide))
    refine lv_aload_n hx hb dX4_setCrossing_17 rfl (lv_at hl 0 rfl) ?_
    refine mt_get S iw_X4 hC hW wc_200 rfl 15 (by decide) mw_fl_X4_44 rfl rfl dX4_setCrossing_18 ?_
    refine mt_te (y := 0) rfl ?_
    refine lv_if_le (tgt := 26) hx hb dX4_setCrossing_21 (by decide) (fun c_3 => ?_) (fun c_3 => absurd (by decide) c_3)
    refine lv_aload_n hx hb dX4_setCrossing_26 rfl (lv_at hl 0 rfl) ?_
    refine mt_get S iw_X4 hC hW wc_200 rfl 8 (by decide) mw_fl_X4_32 rfl rfl dX4_setCrossing_27 ?_
    refine lv_iload_n hx hb dX4_setCrossing_30 rfl (lv_at hl 1 rfl) ?_
    refine wk_zald S hC hW ar_209 (vp_m hM (im_m hM c_1)) dX4_setCrossing_31 ?_
    refine lv_istore_n (lv' := [(3, .int (G 209 x.toNatClampNeg)), (0, .ref (ad (200))), (1, .int (x)), (2, .int (b))]) hx hb dX4_setCrossing_32 rfl hl (by decide) rfl (fun ls hl => ?_)
    refine lv_aload_n hx hb dX4_setCrossing_33 rfl (lv_at hl 1 rfl) ?_
    refine mt_get S iw_X4 hC hW wc_200 rfl 8 (by decide) mw_fl_X4_32 rfl rfl dX4_setCrossing_34 ?_
    refine lv_iload_n hx hb dX4_setCrossing_37 rfl (lv_at hl 2 rfl) ?_
    refine lv_iload_n hx hb dX4_setCrossing_38 rfl (lv_at hl 3 rfl) ?_
    refine wk_zast S hC hW hS ar_209 (vp_m hM (im_m hM c_1)) (nar_b hbb) dX4_setCrossing_39 (fun H locs hW hS => ?_)
    refine lv_iload_n hx hb dX4_setCrossing_40 rfl (lv_at hl 0 rfl) ?_
    have hW := hW.to (w1 := mt_wc g ad lc mc bc (c_X4_setCrossing_N lc mc bc N G x b) (c_X4_setCrossing_G lc mc bc N G x b) o d) (by rw [c_X4_setCrossing_N, if_neg c_1, c_X4_setCrossing_G, if_neg c_1])
    exact mt_rz S hr hk (nar_b (hM.2.2.2.2.2.2.2.1 _).2.1) hW hS (by rw [c_X4_setCrossing, if_neg c_1]) (Nat.le_of_ble_eq_true rfl) (Nat.le_of_ble_eq_true rfl) dX4_setCrossing_41
def c_X4_served (lc mc bc : Nat) (N G : Nat → Nat → Int32) (x : Int32) : Int32 := if (c_X4_isPath x) = 0 then (-1) else (if (c_X4_servedBy lc mc bc N G x) = (-1) then (-1) else (c_X4_servedBy lc mc bc N G x))
def c_X4_served_N (lc mc bc : Nat) (N G : Nat → Nat → Int32) (x : Int32) : Nat → Nat → Int32 := if (c_X4_isPath x) = 0 then (mt_gu N 200 15 1) else (if (c_X4_servedBy lc mc bc N G x) = (-1) then (mt_gu N 200 15 2) else (mt_gu N 200 15 0))
set_option maxRecDepth 100000 in
set_option maxHeartbeats 4000000 in
theorem k_X4_served (l : Launch) (hlt : l.stackTraces = false) (g : mt_G) (z : Nat) (ad : Nat → Nat) (lc mc bc : Nat) (N G : Nat → Nat → Int32) (o : Nat → Int64) (d : mt_D) (h6 : lc ≤ 6) (h8 : mc ≤ 8) (hb6 : bc ≤ 6) (x : Int32) (hM : MI N G) : mt_K l g z yX4_served cX4_served 2 (some .int) 3 68 0 0 [.ref (ad (200)), .int x] (mt_wc g ad lc mc bc N G o d) ad (.inr (some (.int (c_X4_served lc mc bc N G x)))) (mt_wc g ad lc mc bc (c_X4_served_N lc mc bc N G x) G o d) ad := by
  refine mt_ofW (by decide +kernel) (Nat.le_of_ble_eq_true rfl) ?_
  intro p e s m args below meth c S hr9 hk hnm hout hC hW hS ls hl
  have hr := hr9
  have hx := S.1
  have hb := S.2.1
  have hl : lv_has ls 2 [(0, .ref (ad (200))), (1, .int (x))] := hl
  refine lv_aload_n hx hb dX4_served_0 rfl (lv_at hl 0 rfl) ?_
  refine lv_iload_n hx hb dX4_served_1 rfl (lv_at hl 1 rfl) ?_
  refine mt_cS1 (As := [.int (x)]) (rest := [.ref (ad (200))]) S ps_X4_isPath mw_ml_X4_70 (k_X4_isPath l hlt g z ad lc mc bc N G o d h6 h8 hb6 x) hC hW hS rfl hl.1 rfl (Nat.le_of_ble_eq_true rfl) dX4_served_2 ⟨(Nat.le_of_ble_eq_true rfl), (Nat.le_of_ble_eq_true rfl)⟩ ⟨(Nat.le_of_ble_eq_true rfl), (Nat.le_of_ble_eq_true rfl)⟩ rfl (fun H locs hW hS => ?_)
  refine lv_if_ne (tgt := 12) hx hb dX4_served_5 (by decide) (fun c_1 => ?_) (fun c_1 => ?_)
  · refine lv_aload_n hx hb dX4_served_12 rfl (lv_at hl 0 rfl) ?_
    refine lv_iload_n hx hb dX4_served_13 rfl (lv_at hl 1 rfl) ?_
    refine mt_cV1 (As := [.int (x)]) (rest := [.ref (ad (200))]) S pv_X4_servedBy mw_ml_X4_90 (k_X4_servedBy l hlt g z ad lc mc bc N G o d h6 h8 hb6 x (by repeat (first | exact hM | exact hP | apply MI_t)) (isP_of c_1)) hC hW hS wc_200 rfl rfl rfl hl.1 rfl (Nat.le_of_ble_eq_true rfl) dX4_served_14 ⟨(Nat.le_of_ble_eq_true rfl), (Nat.le_of_ble_eq_true rfl)⟩ ⟨(Nat.le_of_ble_eq_true rfl), (Nat.le_of_ble_eq_true rfl)⟩ rfl (fun H locs hW hS => ?_)
    refine lv_iconst (v := -1) hx hb dX4_served_17 (by decide) ?_
    refine lv_icmp_ne (tgt := 25) hx hb dX4_served_18 (by decide) (fun c_2 => ?_) (fun c_2 => ?_)
    · refine lv_iconst (v := 0) hx hb dX4_served_25 (by decide) ?_
      refine mt_put S iw_X4 tyX4 tyX4_ok nmX4 hC hW hS wc_200 rfl 15 (by decide) mw_fl_X4_44 rfl rfl rfl rfl (Nat.le_of_ble_eq_true rfl) dX4_served_26 (fun H locs hW hS => ?_)
      have hW := hW.to (w1 := mt_wc g ad lc mc bc (mt_gu N 200 15 0) G o d) (wc_sett (by decide))
      refine lv_aload_n hx hb dX4_served_29 rfl (lv_at hl 0 rfl) ?_
      refine mt_get S iw_X4 hC hW wc_200 rfl 15 (by decide) mw_fl_X4_44 rfl rfl dX4_served_30 ?_
      refine mt_te (y := 0) rfl ?_
      refine lv_if_ne (tgt := 44) hx hb dX4_served_33 (by decide) (fun c_3 => absurd (by decide) c_3) (fun c_3 => ?_)
      refine lv_aload_n hx hb dX4_served_36 rfl (lv_at hl 0 rfl) ?_
      refine lv_iload_n hx hb dX4_served_37 rfl (lv_at hl 1 rfl) ?_
      refine mt_cV1 (As := [.int (x)]) (rest := []) S pv_X4_servedBy mw_ml_X4_90 (k_X4_servedBy l hlt g z ad lc mc bc (mt_gu N 200 15 0) G o d h6 h8 hb6 x (by repeat (first | exact hM | exact hP | apply MI_t)) (isP_of c_1)) hC hW hS wc_200 rfl rfl rfl hl.1 rfl (Nat.le_of_ble_eq_true rfl) dX4_served_38 ⟨(Nat.le_of_ble_eq_true rfl), (Nat.le_of_ble_eq_true rfl)⟩ ⟨(Nat.le_of_ble_eq_true rfl), (Nat.le_of_ble_eq_true rfl)⟩ rfl (fun H locs hW hS => ?_)
      refine mt_te (y := c_X4_servedBy lc mc bc N G x) rfl ?_
      refine lv_goto (tgt := 45) hx hb dX4_served_41 (by decide) ?_
      have hW := hW.to (w1 := mt_wc g ad lc mc bc (c_X4_served_N lc mc bc N G x) G o d) (by rw [c_X4_served_N, if_neg c_1, if_neg c_2])
      exact mt_ri S hr hk hW hS (by rw [c_X4_served, if_neg c_1, if_neg c_2]) (Nat.le_of_ble_eq_true rfl) (Nat.le_of_ble_eq_true rfl) dX4_served_45
    · refine lv_iconst (v := 2) hx hb dX4_served_21 (by decide) ?_
      refine lv_goto (tgt := 26) hx hb dX4_served_22 (by decide) ?_
      refine mt_put S iw_X4 tyX4 tyX4_ok nmX4 hC hW hS wc_200 rfl 15 (by decide) mw_fl_X4_44 rfl rfl rfl rfl (Nat.le_of_ble_eq_true rfl) dX4_served_26 (fun H locs hW hS => ?_)
      have hW := hW.to (w1 := mt_wc g ad lc mc bc (mt_gu N 200 15 2) G o d) (wc_sett (by decide))
      refine lv_aload_n hx hb dX4_served_29 rfl (lv_at hl 0 rfl) ?_
      refine mt_get S iw_X4 hC hW wc_200 rfl 15 (by decide) mw_fl_X4_44 rfl rfl dX4_served_30 ?_
      refine mt_te (y := 2) rfl ?_
      refine lv_if_ne (tgt := 44) hx hb dX4_served_33 (by decide) (fun c_4 => ?_) (fun c_4 => absurd c_4 (by decide))
      refine lv_iconst (v := -1) hx hb dX4_served_44 (by decide) ?_
      have hW := hW.to (w1 := mt_wc g ad lc mc bc (c_X4_served_N lc mc bc N G x) G o d) (by rw [c_X4_served_N, if_neg c_1, if_pos c_2])
      exact mt_ri S hr hk hW hS (by rw [c_X4_served, if_neg c_1, if_pos c_2]) (Nat.le_of_ble_eq_true rfl) (Nat.le_of_ble_eq_true rfl) dX4_served_45
  · refine lv_iconst (v := 1) hx hb dX4_served_8 (by decide) ?_
    refine lv_goto (tgt := 26) hx hb dX4_served_9 (by decide) ?_
    refine mt_put S iw_X4 tyX4 tyX4_ok nmX4 hC hW hS wc_200 rfl 15 (by decide) mw_fl_X4_44 rfl rfl rfl rfl (Nat.le_of_ble_eq_true rfl) dX4_served_26 (fun H locs hW hS => ?_)
    have hW := hW.to (w1 := mt_wc g ad lc mc bc (mt_gu N 200 15 1) G o d) (wc_sett (by decide))
    refine lv_aload_n hx hb dX4_served_29 rfl (lv_at hl 0 rfl) ?_
    refine mt_get S iw_X4 hC hW wc_200 rfl 15 (by decide) mw_fl_X4_44 rfl rfl dX4_served_30 ?_
    refine mt_te (y := 1) rfl ?_
    refine lv_if_ne (tgt := 44) hx hb dX4_served_33 (by decide) (fun c_5 => ?_) (fun c_5 => absurd c_5 (by decide))
    refine lv_iconst (v := -1) hx hb dX4_served_44 (by decide) ?_
    have hW := hW.to (w1 := mt_wc g ad lc mc bc (c_X4_served_N lc mc bc N G x) G o d) (by rw [c_X4_served_N, if_pos c_1])
    exact mt_ri S hr hk hW hS (by rw [c_X4_served, if_pos c_1]) (Nat.le_of_ble_eq_true rfl) (Nat.le_of_ble_eq_true rfl) dX4_served_45

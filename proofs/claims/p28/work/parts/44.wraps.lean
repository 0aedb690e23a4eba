theorem sh_n {lc mc bc : Nat} {N G : Nat → Nat → Int32} {x : UInt32} (h : c_X3_shownShare lc mc bc N G = .inr x) : vf_n64 (FP.f2d x) := by
  unfold c_X3_shownShare at h
  by_cases h1 : c_X3_allBytes lc mc bc N G = 0
  · rw [if_pos h1] at h; cases h
  · rw [if_neg h1] at h; cases h; exact nn_fd _ _ h1
set_option maxRecDepth 100000 in
set_option maxHeartbeats 4000000 in
theorem k_L_unmount (l : Launch) (hlt : l.stackTraces = false) (g : mt_G) (z : Nat) (ad : Nat → Nat) (lc mc bc : Nat) (N G : Nat → Nat → Int32) (o : Nat → Int64) (d : mt_D) (h6 : lc ≤ 6) (h8 : mc ≤ 8) (hb6 : bc ≤ 6) (x : Int32)  : mt_KL l g z yL_unmount cL_unmount 4 [(0, 9, 12, 21)] 8 127 1 6 [.ref (ad 0), .int x, .ref (ad 300)] (mt_wc g ad lc mc bc N G o d) ad (scase (c_X3_unmount lc mc bc N G x) (fun E => if E = "java/lang/IndexOutOfBoundsException" then 1 else 0) (fun _ => 0)) (fun a => scase (c_X3_unmount lc mc bc N G x) (fun _ => mt_wc g a lc mc bc (c_X3_unmount_N lc mc bc N G x) (c_X3_unmount_G lc mc bc N G x) o d) (fun x0 => mt_wc g a lc mc bc (c_X3_unmount_N lc mc bc N G x) (c_X3_unmount_G lc mc bc N G x) (vp_updL o 0 x0.toInt64) d)) (fun a => a = ad) := by
  refine mt_ofWL (by decide +kernel) (Nat.le_of_ble_eq_true rfl) ?_
  intro p e s m args below meth c S hr hk hT hC hW hS ls hl
  have hx := S.1
  have hb := S.2.1
  have hl : lv_has ls 4 [(0, .ref (ad 0)), (1, .int x), (2, .ref (ad 300))] := hl
  refine lv_aload_n hx hb dL_unmount_0 rfl (lv_at hl 2 rfl) ?_
  refine lv_iconst (v := 0) hx hb dL_unmount_1 (by decide) ?_
  refine lv_aload_n hx hb dL_unmount_2 rfl (lv_at hl 0 rfl) ?_
  refine lv_iload_n hx hb dL_unmount_3 rfl (lv_at hl 1 rfl) ?_
  cases hq : c_X3_unmount lc mc bc N G x with
  | inl E =>
    have hE := t_X3_unmount hq
    refine mt_cVx (As := [.int x]) (rest := [.int 0, .ref (ad 300)]) S pv_X3_unmount mw_ml_L_25 (k_X3_unmount l hlt g z ad lc mc bc N G o d h6 h8 hb6 x) hC hW hS wc_0 rfl rfl rfl hl.1 rfl (Nat.le_of_ble_eq_true rfl) dL_unmount_4 ⟨(Nat.le_of_ble_eq_true rfl), (Nat.le_of_ble_eq_true rfl)⟩ ⟨(Nat.le_of_ble_eq_true rfl), (Nat.le_of_ble_eq_true rfl)⟩ (congrArg (a₂ := .inl E) xr_i hq) (fun H locs q ce hW hS h1 h2 h3 => ?_)
    rcases hE with rfl
    · refine mt_catch (name := "java/lang/IndexOutOfBoundsException") S hT hC [] ⟨0, 9, 12, 21⟩ [] rfl (fun z hz => by cases hz) rfl (by decide) mw_cl_L_21 mw_ca_java_lang_IndexOutOfBoundsException_java_lang_IndexOutOfBoundsException h1 h2 h3 ?_
      refine lv_astore_n (lv' := [(3, .ref q), (0, .ref (ad 0)), (1, .int x), (2, .ref (ad 300))]) hx hb dL_unmount_12 rfl hl (by decide) rfl (fun ls hl => ?_)
      refine lv_iconst (v := 1) hx hb dL_unmount_13 (by decide) ?_
      refine mt_riL (ad1 := ad) S hr hk ?_ ?_ hS ?_ ?_ ?_ dL_unmount_14
      · exact rfl
      · exact hW.to (by rfl)
      · decide
      · exact (Nat.le_of_ble_eq_true rfl)
      · exact (Nat.le_of_ble_eq_true rfl)
  | inr x0 =>
    refine mt_cV1 (v := .int x0) (As := [.int x]) (rest := [.int 0, .ref (ad 300)]) S pv_X3_unmount mw_ml_L_25 (k_X3_unmount l hlt g z ad lc mc bc N G o d h6 h8 hb6 x) hC hW hS wc_0 rfl rfl rfl hl.1 rfl (Nat.le_of_ble_eq_true rfl) dL_unmount_4 ⟨(Nat.le_of_ble_eq_true rfl), (Nat.le_of_ble_eq_true rfl)⟩ ⟨(Nat.le_of_ble_eq_true rfl), (Nat.le_of_ble_eq_true rfl)⟩ (congrArg (a₂ := .inr x0) xr_i hq) (fun H locs hW hS => ?_)
    refine lv_i2l (v := x0.toInt64) hx hb dL_unmount_7 rfl ?_
    refine mt_last S hC hW hS (k := 300) rfl (vp_in_nI (Nat.zero_lt_one) (by decide)) dL_unmount_8 (fun H locs hW hS => ?_)
    have hW := hW.to wc_seto
    refine lv_goto (tgt := 15) hx hb dL_unmount_9 (by decide) ?_
    refine lv_iconst (v := 0) hx hb dL_unmount_15 (by decide) ?_
    refine mt_riL (ad1 := ad) S hr hk ?_ ?_ hS ?_ ?_ ?_ dL_unmount_16
    · exact rfl
    · exact hW.to (by rfl)
    · rfl
    · exact (Nat.le_of_ble_eq_true rfl)
    · exact (Nat.le_of_ble_eq_true rfl)
set_option maxRecDepth 100000 in
set_option maxHeartbeats 4000000 in
theorem k_L_move (l : Launch) (hlt : l.stackTraces = false) (g : mt_G) (z : Nat) (ad : Nat → Nat) (lc mc bc : Nat) (N G : Nat → Nat → Int32) (o : Nat → Int64) (d : mt_D) (h6 : lc ≤ 6) (h8 : mc ≤ 8) (hb6 : bc ≤ 6) (x : Int32) (y : Int32)  : mt_KL l g z yL_move cL_move 5 [(0, 10, 13, 21), (0, 10, 17, 19)] 8 128 2 12 [.ref (ad 0), .int x, .int y, .ref (ad 300)] (mt_wc g ad lc mc bc N G o d) ad (scase (c_X3_move lc mc bc N G x y) (fun E => if E = "java/lang/IndexOutOfBoundsException" then 1 else if E = "java/lang/IllegalArgumentException" then 2 else 0) (fun _ => 0)) (fun a => scase (c_X3_move lc mc bc N G x y) (fun _ => mt_wc g a lc mc bc (c_X3_move_N lc mc bc N G x y) (c_X3_move_G lc mc bc N G x y) o d) (fun x0 => mt_wc g a lc mc bc (c_X3_move_N lc mc bc N G x y) (c_X3_move_G lc mc bc N G x y) (vp_updL o 0 x0.toInt64) d)) (fun a => a = ad) := by
  refine mt_ofWL (by decide +kernel) (Nat.le_of_ble_eq_true rfl) ?_
  intro p e s m args below meth c S hr hk hT hC hW hS ls hl
  have hx := S.1
  have hb := S.2.1
  have hl : lv_has ls 5 [(0, .ref (ad 0)), (1, .int x), (2, .int y), (3, .ref (ad 300))] := hl
  refine lv_aload_n hx hb dL_move_0 rfl (lv_at hl 3 rfl) ?_
  refine lv_iconst (v := 0) hx hb dL_move_1 (by decide) ?_
  refine lv_aload_n hx hb dL_move_2 rfl (lv_at hl 0 rfl) ?_
  refine lv_iload_n hx hb dL_move_3 rfl (lv_at hl 1 rfl) ?_
  refine lv_iload_n hx hb dL_move_4 rfl (lv_at hl 2 rfl) ?_
  cases hq : c_X3_move lc mc bc N G x y with
  | inl E =>
    have hE := t_X3_move hq
    refine mt_cVx (As := [.int x, .int y]) (rest := [.int 0, .ref (ad 300)]) S pv_X3_move mw_ml_L_29 (k_X3_move l hlt g z ad lc mc bc N G o d h6 h8 hb6 x y) hC hW hS wc_0 rfl rfl rfl hl.1 rfl (Nat.le_of_ble_eq_true rfl) dL_move_5 ⟨(Nat.le_of_ble_eq_true rfl), (Nat.le_of_ble_eq_true rfl)⟩ ⟨(Nat.le_of_ble_eq_true rfl), (Nat.le_of_ble_eq_true rfl)⟩ (congrArg (a₂ := .inl E) xr_i hq) (fun H locs q ce hW hS h1 h2 h3 => ?_)
    rcases hE with rfl | rfl
    · refine mt_catch (name := "java/lang/IndexOutOfBoundsException") S hT hC [] ⟨0, 10, 13, 21⟩ [⟨0, 10, 17, 19⟩] rfl (fun z hz => by cases hz) rfl (by decide) mw_cl_L_21 mw_ca_java_lang_IndexOutOfBoundsException_java_lang_IndexOutOfBoundsException h1 h2 h3 ?_
      refine lv_astore (lv' := [(4, .ref q), (0, .ref (ad 0)), (1, .int x), (2, .int y), (3, .ref (ad 300))]) hx hb dL_move_13 hl (by decide) rfl (fun ls hl => ?_)
      refine lv_iconst (v := 1) hx hb dL_move_15 (by decide) ?_
      refine mt_riL (ad1 := ad) S hr hk ?_ ?_ hS ?_ ?_ ?_ dL_move_16
      · exact rfl
      · exact hW.to (by rfl)
      · decide
      · exact (Nat.le_of_ble_eq_true rfl)
      · exact (Nat.le_of_ble_eq_true rfl)
    · refine mt_catch (name := "java/lang/IllegalArgumentException") S hT hC [⟨0, 10, 13, 21⟩] ⟨0, 10, 17, 19⟩ [] rfl (by intro z hz; simp only [List.mem_cons, List.not_mem_nil, or_false] at hz; rcases hz with rfl <;> first | exact ⟨by decide, "java/lang/IndexOutOfBoundsException", mw_cl_L_21, List.mem_of_getElem? (i := 42) rfl⟩) rfl (by decide) mw_cl_L_19 mw_ca_java_lang_IllegalArgumentException_java_lang_IllegalArgumentException h1 h2 h3 ?_
      refine lv_astore (lv' := [(4, .ref q), (0, .ref (ad 0)), (1, .int x), (2, .int y), (3, .ref (ad 300))]) hx hb dL_move_17 hl (by decide) rfl (fun ls hl => ?_)
      refine lv_iconst (v := 2) hx hb dL_move_19 (by decide) ?_
      refine mt_riL (ad1 := ad) S hr hk ?_ ?_ hS ?_ ?_ ?_ dL_move_20
      · exact rfl
      · exact hW.to (by rfl)
      · decide
      · exact (Nat.le_of_ble_eq_true rfl)
      · exact (Nat.le_of_ble_eq_true rfl)
  | inr x0 =>
    refine mt_cV1 (v := .int x0) (As := [.int x, .int y]) (rest := [.int 0, .ref (ad 300)]) S pv_X3_move mw_ml_L_29 (k_X3_move l hlt g z ad lc mc bc N G o d h6 h8 hb6 x y) hC hW hS wc_0 rfl rfl rfl hl.1 rfl (Nat.le_of_ble_eq_true rfl) dL_move_5 ⟨(Nat.le_of_ble_eq_true rfl), (Nat.le_of_ble_eq_true rfl)⟩ ⟨(Nat.le_of_ble_eq_true rfl), (Nat.le_of_ble_eq_true rfl)⟩ (congrArg (a₂ := .inr x0) xr_i hq) (fun H locs hW hS => ?_)
    refine lv_i2l (v := x0.toInt64) hx hb dL_move_8 rfl ?_
    refine mt_last S hC hW hS (k := 300) rfl (vp_in_nI (Nat.zero_lt_one) (by decide)) dL_move_9 (fun H locs hW hS => ?_)
    have hW := hW.to wc_seto
    refine lv_goto (tgt := 21) hx hb dL_move_10 (by decide) ?_
    refine lv_iconst (v := 0) hx hb dL_move_21 (by decide) ?_
    refine mt_riL (ad1 := ad) S hr hk ?_ ?_ hS ?_ ?_ ?_ dL_move_22
    · exact rfl
    · exact hW.to (by rfl)
    · rfl
    · exact (Nat.le_of_ble_eq_true rfl)
    · exact (Nat.le_of_ble_eq_true rfl)
set_option maxRecDepth 100000 in
set_option maxHeartbeats 4000000 in
theorem k_L_setCrossing (l : Launch) (hlt : l.stackTraces = false) (g : mt_G) (z : Nat) (ad : Nat → Nat) (lc mc bc : Nat) (N G : Nat → Nat → Int32) (o : Nat → Int64) (d : mt_D) (h6 : lc ≤ 6) (h8 : mc ≤ 8) (hb6 : bc ≤ 6) (x : Int32) (b : Int32) (hb01 : b = 0 ∨ b = 1) (hN01 : ∀ i, i < mc → N (150 + i) 4 = 0 ∨ N (150 + i) 4 = 1) : mt_KL l g z yL_setCrossing cL_setCrossing 5 [(0, 17, 20, 21)] 8 128 1 6 [.ref (ad 0), .int x, .int b, .ref (ad 300)] (mt_wc g ad lc mc bc N G o d) ad (scase (c_X3_setCrossing lc mc bc N G x b) (fun E => if E = "java/lang/IndexOutOfBoundsException" then 1 else 0) (fun _ => 0)) (fun a => scase (c_X3_setCrossing lc mc bc N G x b) (fun _ => mt_wc g a lc mc bc (c_X3_setCrossing_N lc mc bc N G x b) G o d) (fun x0 => mt_wc g a lc mc bc (c_X3_setCrossing_N lc mc bc N G x b) G (vp_updL o 0 (if x0 = 0 then 0 else 1)) d)) (fun a => a = ad) := by
  refine mt_ofWL (by decide +kernel) (Nat.le_of_ble_eq_true rfl) ?_
  intro p e s m args below meth c S hr hk hT hC hW hS ls hl
  have hx := S.1
  have hb := S.2.1
  have hl : lv_has ls 5 [(0, .ref (ad 0)), (1, .int x), (2, .int b), (3, .ref (ad 300))] := hl
  refine lv_aload_n hx hb dL_setCrossing_0 rfl (lv_at hl 3 rfl) ?_
  refine lv_iconst (v := 0) hx hb dL_setCrossing_1 (by decide) ?_
  refine lv_aload_n hx hb dL_setCrossing_2 rfl (lv_at hl 0 rfl) ?_
  refine lv_iload_n hx hb dL_setCrossing_3 rfl (lv_at hl 1 rfl) ?_
  refine lv_iload_n hx hb dL_setCrossing_4 rfl (lv_at hl 2 rfl) ?_
  cases hq : c_X3_setCrossing lc mc bc N G x b with
  | inl E =>
    have hE := t_X3_setCrossing hq
    refine mt_cVx (As := [.int x, .int b]) (rest := [.int 0, .ref (ad 300)]) S pv_X3_setCrossing mw_ml_L_33 (k_X3_setCrossing l hlt g z ad lc mc bc N G o d h6 h8 hb6 x b hb01 hN01) hC hW hS wc_0 rfl rfl rfl hl.1 rfl (Nat.le_of_ble_eq_true rfl) dL_setCrossing_5 ⟨(Nat.le_of_ble_eq_true rfl), (Nat.le_of_ble_eq_true rfl)⟩ ⟨(Nat.le_of_ble_eq_true rfl), (Nat.le_of_ble_eq_true rfl)⟩ (congrArg (a₂ := .inl E) xr_i hq) (fun H locs q ce hW hS h1 h2 h3 => ?_)
    rcases hE with rfl
    · refine mt_catch (name := "java/lang/IndexOutOfBoundsException") S hT hC [] ⟨0, 17, 20, 21⟩ [] rfl (fun z hz => by cases hz) rfl (by decide) mw_cl_L_21 mw_ca_java_lang_IndexOutOfBoundsException_java_lang_IndexOutOfBoundsException h1 h2 h3 ?_
      refine lv_astore (lv' := [(4, .ref q), (0, .ref (ad 0)), (1, .int x), (2, .int b), (3, .ref (ad 300))]) hx hb dL_setCrossing_20 hl (by decide) rfl (fun ls hl => ?_)
      refine lv_iconst (v := 1) hx hb dL_setCrossing_22 (by decide) ?_
      refine mt_riL (ad1 := ad) S hr hk ?_ ?_ hS ?_ ?_ ?_ dL_setCrossing_23
      · exact rfl
      · exact hW.to (by rfl)
      · decide
      · exact (Nat.le_of_ble_eq_true rfl)
      · exact (Nat.le_of_ble_eq_true rfl)
  | inr x0 =>
    refine mt_cV1 (v := .int x0) (As := [.int x, .int b]) (rest := [.int 0, .ref (ad 300)]) S pv_X3_setCrossing mw_ml_L_33 (k_X3_setCrossing l hlt g z ad lc mc bc N G o d h6 h8 hb6 x b hb01 hN01) hC hW hS wc_0 rfl rfl rfl hl.1 rfl (Nat.le_of_ble_eq_true rfl) dL_setCrossing_5 ⟨(Nat.le_of_ble_eq_true rfl), (Nat.le_of_ble_eq_true rfl)⟩ ⟨(Nat.le_of_ble_eq_true rfl), (Nat.le_of_ble_eq_true rfl)⟩ (congrArg (a₂ := .inr x0) xr_i hq) (fun H locs hW hS => ?_)
    refine lv_if_eq (tgt := 15) hx hb dL_setCrossing_8 (by decide) (fun c_1 => ?_) (fun c_1 => ?_)
    · refine lv_lconst (v := 0) hx hb dL_setCrossing_15 (by decide) ?_
      refine mt_last S hC hW hS (k := 300) rfl (vp_in_nI (Nat.zero_lt_one) (by decide)) dL_setCrossing_16 (fun H locs hW hS => ?_)
      have hW := hW.to wc_seto
      refine lv_goto (tgt := 24) hx hb dL_setCrossing_17 (by decide) ?_
      refine lv_iconst (v := 0) hx hb dL_setCrossing_24 (by decide) ?_
      refine mt_riL (ad1 := ad) S hr hk ?_ ?_ hS ?_ ?_ ?_ dL_setCrossing_25
      · exact rfl
      · exact hW.to (by show _ = mt_wc g _ _ _ _ _ _ (vp_updL o 0 (if x0 = 0 then 0 else 1)) d; rw [if_pos c_1])
      · rfl
      · exact (Nat.le_of_ble_eq_true rfl)
      · exact (Nat.le_of_ble_eq_true rfl)
    · refine lv_lconst (v := 1) hx hb dL_setCrossing_11 (by decide) ?_
      refine lv_goto (tgt := 16) hx hb dL_setCrossing_12 (by decide) ?_
      refine mt_last S hC hW hS (k := 300) rfl (vp_in_nI (Nat.zero_lt_one) (by decide)) dL_setCrossing_16 (fun H locs hW hS => ?_)
      have hW := hW.to wc_seto
      refine lv_goto (tgt := 24) hx hb dL_setCrossing_17 (by decide) ?_
      refine lv_iconst (v := 0) hx hb dL_setCrossing_24 (by decide) ?_
      refine mt_riL (ad1 := ad) S hr hk ?_ ?_ hS ?_ ?_ ?_ dL_setCrossing_25
      · exact rfl
      · exact hW.to (by show _ = mt_wc g _ _ _ _ _ _ (vp_updL o 0 (if x0 = 0 then 0 else 1)) d; rw [if_neg c_1])
      · rfl
      · exact (Nat.le_of_ble_eq_true rfl)
      · exact (Nat.le_of_ble_eq_true rfl)
set_option maxRecDepth 100000 in
set_option maxHeartbeats 4000000 in
theorem k_L_served (l : Launch) (hlt : l.stackTraces = false) (g : mt_G) (z : Nat) (ad : Nat → Nat) (lc mc bc : Nat) (N G : Nat → Nat → Int32) (o : Nat → Int64) (d : mt_D) (h6 : lc ≤ 6) (h8 : mc ≤ 8) (hb6 : bc ≤ 6) (x : Int32)  : mt_KL l g z yL_served cL_served 4 [(0, 9, 12, 19), (0, 9, 15, 40)] 8 125 2 12 [.ref (ad 0), .int x, .ref (ad 300)] (mt_wc g ad lc mc bc N G o d) ad (scase (c_X3_served lc mc bc N G x) (fun E => if E = "java/lang/IllegalArgumentException" then 1 else if E = "java/util/NoSuchElementException" then 2 else 0) (fun _ => 0)) (fun a => scase (c_X3_served lc mc bc N G x) (fun _ => mt_wc g a lc mc bc N G o d) (fun x0 => mt_wc g a lc mc bc N G (vp_updL o 0 x0.toInt64) d)) (fun a => a = ad) := by
  refine mt_ofWL (by decide +kernel) (Nat.le_of_ble_eq_true rfl) ?_
  intro p e s m args below meth c S hr hk hT hC hW hS ls hl
  have hx := S.1
  have hb := S.2.1
  have hl : lv_has ls 4 [(0, .ref (ad 0)), (1, .int x), (2, .ref (ad 300))] := hl
  refine lv_aload_n hx hb dL_served_0 rfl (lv_at hl 2 rfl) ?_
  refine lv_iconst (v := 0) hx hb dL_served_1 (by decide) ?_
  refine lv_aload_n hx hb dL_served_2 rfl (lv_at hl 0 rfl) ?_
  refine lv_iload_n hx hb dL_served_3 rfl (lv_at hl 1 rfl) ?_
  cases hq : c_X3_served lc mc bc N G x with
  | inl E =>
    have hE := t_X3_served hq
    refine mt_cVx (As := [.int x]) (rest := [.int 0, .ref (ad 300)]) S pv_X3_served mw_ml_L_37 (k_X3_served l hlt g z ad lc mc bc N G o d h6 h8 hb6 x) hC hW hS wc_0 rfl rfl rfl hl.1 rfl (Nat.le_of_ble_eq_true rfl) dL_served_4 ⟨(Nat.le_of_ble_eq_true rfl), (Nat.le_of_ble_eq_true rfl)⟩ ⟨(Nat.le_of_ble_eq_true rfl), (Nat.le_of_ble_eq_true rfl)⟩ (congrArg (a₂ := .inl E) xr_i hq) (fun H locs q ce hW hS h1 h2 h3 => ?_)
    rcases hE with rfl | rfl
    · refine mt_catch (name := "java/lang/IllegalArgumentException") S hT hC [] ⟨0, 9, 12, 19⟩ [⟨0, 9, 15, 40⟩] rfl (fun z hz => by cases hz) rfl (by decide) mw_cl_L_19 mw_ca_java_lang_IllegalArgumentException_java_lang_IllegalArgumentException h1 h2 h3 ?_
      refine lv_astore_n (lv' := [(3, .ref q), (0, .ref (ad 0)), (1, .int x), (2, .ref (ad 300))]) hx hb dL_served_12 rfl hl (by decide) rfl (fun ls hl => ?_)
      refine lv_iconst (v := 1) hx hb dL_served_13 (by decide) ?_
      refine mt_riL (ad1 := ad) S hr hk ?_ ?_ hS ?_ ?_ ?_ dL_served_14
      · exact rfl
      · exact hW.to (by rfl)
      · decide
      · exact (Nat.le_of_ble_eq_true rfl)
      · exact (Nat.le_of_ble_eq_true rfl)
    · refine mt_catch (name := "java/util/NoSuchElementException") S hT hC [⟨0, 9, 12, 19⟩] ⟨0, 9, 15, 40⟩ [] rfl (by intro z hz; simp only [List.mem_cons, List.not_mem_nil, or_false] at hz; rcases hz with rfl <;> first | exact ⟨by decide, "java/lang/IllegalArgumentException", mw_cl_L_19, List.mem_of_getElem? (i := 61) rfl⟩) rfl (by decide) mw_cl_L_40 mw_ca_java_util_NoSuchElementException_java_util_NoSuchElementException h1 h2 h3 ?_
      refine lv_astore_n (lv' := [(3, .ref q), (0, .ref (ad 0)), (1, .int x), (2, .ref (ad 300))]) hx hb dL_served_15 rfl hl (by decide) rfl (fun ls hl => ?_)
      refine lv_iconst (v := 2) hx hb dL_served_16 (by decide) ?_
      refine mt_riL (ad1 := ad) S hr hk ?_ ?_ hS ?_ ?_ ?_ dL_served_17
      · exact rfl
      · exact hW.to (by rfl)
      · decide
      · exact (Nat.le_of_ble_eq_true rfl)
      · exact (Nat.le_of_ble_eq_true rfl)
  | inr x0 =>
    refine mt_cV1 (v := .int x0) (As := [.int x]) (rest := [.int 0, .ref (ad 300)]) S pv_X3_served mw_ml_L_37 (k_X3_served l hlt g z ad lc mc bc N G o d h6 h8 hb6 x) hC hW hS wc_0 rfl rfl rfl hl.1 rfl (Nat.le_of_ble_eq_true rfl) dL_served_4 ⟨(Nat.le_of_ble_eq_true rfl), (Nat.le_of_ble_eq_true rfl)⟩ ⟨(Nat.le_of_ble_eq_true rfl), (Nat.le_of_ble_eq_true rfl)⟩ (congrArg (a₂ := .inr x0) xr_i hq) (fun H locs hW hS => ?_)
    refine lv_i2l (v := x0.toInt64) hx hb dL_served_7 rfl ?_
    refine mt_last S hC hW hS (k := 300) rfl (vp_in_nI (Nat.zero_lt_one) (by decide)) dL_served_8 (fun H locs hW hS => ?_)
    have hW := hW.to wc_seto
    refine lv_goto (tgt := 18) hx hb dL_served_9 (by decide) ?_
    refine lv_iconst (v := 0) hx hb dL_served_18 (by decide) ?_
    refine mt_riL (ad1 := ad) S hr hk ?_ ?_ hS ?_ ?_ ?_ dL_served_19
    · exact rfl
    · exact hW.to (by rfl)
    · rfl
    · exact (Nat.le_of_ble_eq_true rfl)
    · exact (Nat.le_of_ble_eq_true rfl)
set_option maxRecDepth 100000 in
set_option maxHeartbeats 4000000 in
theorem k_L_write (l : Launch) (hlt : l.stackTraces = false) (g : mt_G) (z : Nat) (ad : Nat → Nat) (lc mc bc : Nat) (N G : Nat → Nat → Int32) (o : Nat → Int64) (d : mt_D) (h6 : lc ≤ 6) (h8 : mc ≤ 8) (hb6 : bc ≤ 6) (x : Int32) (y : Int32) (v : Int32)  : mt_KL l g z yL_write cL_write 6 [(0, 12, 15, 19), (0, 12, 19, 40), (0, 12, 23, 23)] 8 140 4 24 [.ref (ad 0), .int x, .int y, .int v, .ref (ad 300)] (mt_wc g ad lc mc bc N G o d) ad (scase (c_X3_write lc mc bc N G x y v) (fun E => if E = "java/lang/IllegalArgumentException" then 1 else if E = "java/util/NoSuchElementException" then 2 else if E = "java/lang/UnsupportedOperationException" then 3 else 0) (fun _ => 0)) (fun a => scase (c_X3_write lc mc bc N G x y v) (fun _ => mt_wc g a lc mc bc (c_X3_write_N lc mc bc N G x y v) (c_X3_write_G lc mc bc N G x y v) o d) (fun x0 => mt_wc g a lc mc bc (c_X3_write_N lc mc bc N G x y v) (c_X3_write_G lc mc bc N G x y v) (vp_updL o 0 x0.toInt64) d)) (fun a => a = ad) := by
  refine mt_ofWL (by decide +kernel) (Nat.le_of_ble_eq_true rfl) ?_
  intro p e s m args below meth c S hr hk hT hC hW hS ls hl
  have hx := S.1
  have hb := S.2.1
  have hl : lv_has ls 6 [(0, .ref (ad 0)), (1, .int x), (2, .int y), (3, .int v), (4, .ref (ad 300))] := hl
  refine lv_aload hx hb dL_write_0 (lv_at hl 4 rfl) ?_
  refine lv_iconst (v := 0) hx hb dL_write_2 (by decide) ?_
  refine lv_aload_n hx hb dL_write_3 rfl (lv_at hl 0 rfl) ?_
  refine lv_iload_n hx hb dL_write_4 rfl (lv_at hl 1 rfl) ?_
  refine lv_iload_n hx hb dL_write_5 rfl (lv_at hl 2 rfl) ?_
  refine lv_iload_n hx hb dL_write_6 rfl (lv_at hl 3 rfl) ?_
  cases hq : c_X3_write lc mc bc N G x y v with
  | inl E =>
    have hE := t_X3_write hq
    refine mt_cVx (As := [.int x, .int y, .int v]) (rest := [.int 0, .ref (ad 300)]) S pv_X3_write mw_ml_L_42 (k_X3_write l hlt g z ad lc mc bc N G o d h6 h8 hb6 x y v) hC hW hS wc_0 rfl rfl rfl hl.1 rfl (Nat.le_of_ble_eq_true rfl) dL_write_7 ⟨(Nat.le_of_ble_eq_true rfl), (Nat.le_of_ble_eq_true rfl)⟩ ⟨(Nat.le_of_ble_eq_true rfl), (Nat.le_of_ble_eq_true rfl)⟩ (congrArg (a₂ := .inl E) xr_i hq) (fun H locs q ce hW hS h1 h2 h3 => ?_)
    rcases hE with rfl | rfl | rfl
    · refine mt_catch (name := "java/lang/IllegalArgumentException") S hT hC [] ⟨0, 12, 15, 19⟩ [⟨0, 12, 19, 40⟩, ⟨0, 12, 23, 23⟩] rfl (fun z hz => by cases hz) rfl (by decide) mw_cl_L_19 mw_ca_java_lang_IllegalArgumentException_java_lang_IllegalArgumentException h1 h2 h3 ?_
      refine lv_astore (lv' := [(5, .ref q), (0, .ref (ad 0)), (1, .int x), (2, .int y), (3, .int v), (4, .ref (ad 300))]) hx hb dL_write_15 hl (by decide) rfl (fun ls hl => ?_)
      refine lv_iconst (v := 1) hx hb dL_write_17 (by decide) ?_
      refine mt_riL (ad1 := ad) S hr hk ?_ ?_ hS ?_ ?_ ?_ dL_write_18
      · exact rfl
      · exact hW.to (by rfl)
      · decide
      · exact (Nat.le_of_ble_eq_true rfl)
      · exact (Nat.le_of_ble_eq_true rfl)
    · refine mt_catch (name := "java/util/NoSuchElementException") S hT hC [⟨0, 12, 15, 19⟩] ⟨0, 12, 19, 40⟩ [⟨0, 12, 23, 23⟩] rfl (by intro z hz; simp only [List.mem_cons, List.not_mem_nil, or_false] at hz; rcases hz with rfl <;> first | exact ⟨by decide, "java/lang/IllegalArgumentException", mw_cl_L_19, List.mem_of_getElem? (i := 61) rfl⟩) rfl (by decide) mw_cl_L_40 mw_ca_java_util_NoSuchElementException_java_util_NoSuchElementException h1 h2 h3 ?_
      refine lv_astore (lv' := [(5, .ref q), (0, .ref (ad 0)), (1, .int x), (2, .int y), (3, .int v), (4, .ref (ad 300))]) hx hb dL_write_19 hl (by decide) rfl (fun ls hl => ?_)
      refine lv_iconst (v := 2) hx hb dL_write_21 (by decide) ?_
      refine mt_riL (ad1 := ad) S hr hk ?_ ?_ hS ?_ ?_ ?_ dL_write_22
      · exact rfl
      · exact hW.to (by rfl)
      · decide
      · exact (Nat.le_of_ble_eq_true rfl)
      · exact (Nat.le_of_ble_eq_true rfl)
    · refine mt_catch (name := "java/lang/UnsupportedOperationException") S hT hC [⟨0, 12, 15, 19⟩, ⟨0, 12, 19, 40⟩] ⟨0, 12, 23, 23⟩ [] rfl (by intro z hz; simp only [List.mem_cons, List.not_mem_nil, or_false] at hz; rcases hz with rfl | rfl <;> first | exact ⟨by decide, "java/lang/IllegalArgumentException", mw_cl_L_19, List.mem_of_getElem? (i := 56) rfl⟩ | exact ⟨by decide, "java/util/NoSuchElementException", mw_cl_L_40, List.mem_of_getElem? (i := 59) rfl⟩) rfl (by decide) mw_cl_L_23 mw_ca_java_lang_UnsupportedOperationException_java_lang_UnsupportedOperationException h1 h2 h3 ?_
      refine lv_astore (lv' := [(5, .ref q), (0, .ref (ad 0)), (1, .int x), (2, .int y), (3, .int v), (4, .ref (ad 300))]) hx hb dL_write_23 hl (by decide) rfl (fun ls hl => ?_)
      refine lv_iconst (v := 3) hx hb dL_write_25 (by decide) ?_
      refine mt_riL (ad1 := ad) S hr hk ?_ ?_ hS ?_ ?_ ?_ dL_write_26
      · exact rfl
      · exact hW.to (by rfl)
      · decide
      · exact (Nat.le_of_ble_eq_true rfl)
      · exact (Nat.le_of_ble_eq_true rfl)
  | inr x0 =>
    refine mt_cV1 (v := .int x0) (As := [.int x, .int y, .int v]) (rest := [.int 0, .ref (ad 300)]) S pv_X3_write mw_ml_L_42 (k_X3_write l hlt g z ad lc mc bc N G o d h6 h8 hb6 x y v) hC hW hS wc_0 rfl rfl rfl hl.1 rfl (Nat.le_of_ble_eq_true rfl) dL_write_7 ⟨(Nat.le_of_ble_eq_true rfl), (Nat.le_of_ble_eq_true rfl)⟩ ⟨(Nat.le_of_ble_eq_true rfl), (Nat.le_of_ble_eq_true rfl)⟩ (congrArg (a₂ := .inr x0) xr_i hq) (fun H locs hW hS => ?_)
    refine lv_i2l (v := x0.toInt64) hx hb dL_write_10 rfl ?_
    refine mt_last S hC hW hS (k := 300) rfl (vp_in_nI (Nat.zero_lt_one) (by decide)) dL_write_11 (fun H locs hW hS => ?_)
    have hW := hW.to wc_seto
    refine lv_goto (tgt := 27) hx hb dL_write_12 (by decide) ?_
    refine lv_iconst (v := 0) hx hb dL_write_27 (by decide) ?_
    refine mt_riL (ad1 := ad) S hr hk ?_ ?_ hS ?_ ?_ ?_ dL_write_28
    · exact rfl
    · exact hW.to (by rfl)
    · rfl
    · exact (Nat.le_of_ble_eq_true rfl)
    · exact (Nat.le_of_ble_eq_true rfl)
set_option maxRecDepth 100000 in
set_option maxHeartbeats 4000000 in
theorem k_L_link (l : Launch) (hlt : l.stackTraces = false) (g : mt_G) (z : Nat) (ad : Nat → Nat) (lc mc bc : Nat) (N G : Nat → Nat → Int32) (o : Nat → Int64) (d : mt_D) (h6 : lc ≤ 6) (h8 : mc ≤ 8) (hb6 : bc ≤ 6) (x : Int32) (y : Int32) (v : Int32)  : mt_KL l g z yL_link cL_link 6 [(0, 12, 15, 19), (0, 12, 19, 40)] 8 141 4 24 [.ref (ad 0), .int x, .int y, .int v, .ref (ad 300)] (mt_wc g ad lc mc bc N G o d) ad (scase (c_X3_link lc mc bc N G x y v) (fun E => if E = "java/lang/IllegalArgumentException" then 1 else if E = "java/util/NoSuchElementException" then 2 else 0) (fun _ => 0)) (fun a => scase (c_X3_link lc mc bc N G x y v) (fun _ => mt_wc g a lc mc bc (c_X3_link_N lc mc bc N G x y v) (c_X3_link_G lc mc bc N G x y v) o d) (fun x0 => mt_wc g a lc mc bc (c_X3_link_N lc mc bc N G x y v) (c_X3_link_G lc mc bc N G x y v) (vp_updL o 0 x0.toInt64) d)) (fun a => a = ad) := by
  refine mt_ofWL (by decide +kernel) (Nat.le_of_ble_eq_true rfl) ?_
  intro p e s m args below meth c S hr hk hT hC hW hS ls hl
  have hx := S.1
  have hb := S.2.1
  have hl : lv_has ls 6 [(0, .ref (ad 0)), (1, .int x), (2, .int y), (3, .int v), (4, .ref (ad 300))] := hl
  refine lv_aload hx hb dL_link_0 (lv_at hl 4 rfl) ?_
  refine lv_iconst (v := 0) hx hb dL_link_2 (by decide) ?_
  refine lv_aload_n hx hb dL_link_3 rfl (lv_at hl 0 rfl) ?_
  refine lv_iload_n hx hb dL_link_4 rfl (lv_at hl 1 rfl) ?_
  refine lv_iload_n hx hb dL_link_5 rfl (lv_at hl 2 rfl) ?_
  refine lv_iload_n hx hb dL_link_6 rfl (lv_at hl 3 rfl) ?_
  cases hq : c_X3_link lc mc bc N G x y v with
  | inl E =>
    have hE := t_X3_link hq
    refine mt_cVx (As := [.int x, .int y, .int v]) (rest := [.int 0, .ref (ad 300)]) S pv_X3_link mw_ml_L_45 (k_X3_link l hlt g z ad lc mc bc N G o d h6 h8 hb6 x y v) hC hW hS wc_0 rfl rfl rfl hl.1 rfl (Nat.le_of_ble_eq_true rfl) dL_link_7 ⟨(Nat.le_of_ble_eq_true rfl), (Nat.le_of_ble_eq_true rfl)⟩ ⟨(Nat.le_of_ble_eq_true rfl), (Nat.le_of_ble_eq_true rfl)⟩ (congrArg (a₂ := .inl E) xr_i hq) (fun H locs q ce hW hS h1 h2 h3 => ?_)
    rcases hE with rfl | rfl
    · refine mt_catch (name := "java/lang/IllegalArgumentException") S hT hC [] ⟨0, 12, 15, 19⟩ [⟨0, 12, 19, 40⟩] rfl (fun z hz => by cases hz) rfl (by decide) mw_cl_L_19 mw_ca_java_lang_IllegalArgumentException_java_lang_IllegalArgumentException h1 h2 h3 ?_
      refine lv_astore (lv' := [(5, .ref q), (0, .ref (ad 0)), (1, .int x), (2, .int y), (3, .int v), (4, .ref (ad 300))]) hx hb dL_link_15 hl (by decide) rfl (fun ls hl => ?_)
      refine lv_iconst (v := 1) hx hb dL_link_17 (by decide) ?_
      refine mt_riL (ad1 := ad) S hr hk ?_ ?_ hS ?_ ?_ ?_ dL_link_18
      · exact rfl
      · exact hW.to (by rfl)
      · decide
      · exact (Nat.le_of_ble_eq_true rfl)
      · exact (Nat.le_of_ble_eq_true rfl)
    · refine mt_catch (name := "java/util/NoSuchElementException") S hT hC [⟨0, 12, 15, 19⟩] ⟨0, 12, 19, 40⟩ [] rfl (by intro z hz; simp only [List.mem_cons, List.not_mem_nil, or_false] at hz; rcases hz with rfl <;> first | exact ⟨by decide, "java/lang/IllegalArgumentException", mw_cl_L_19, List.mem_of_getElem? (i := 61) rfl⟩) rfl (by decide) mw_cl_L_40 mw_ca_java_util_NoSuchElementException_java_util_NoSuchElementException h1 h2 h3 ?_
      refine lv_astore (lv' := [(5, .ref q), (0, .ref (ad 0)), (1, .int x), (2, .int y), (3, .int v), (4, .ref (ad 300))]) hx hb dL_link_19 hl (by decide) rfl (fun ls hl => ?_)
      refine lv_iconst (v := 2) hx hb dL_link_21 (by decide) ?_
      refine mt_riL (ad1 := ad) S hr hk ?_ ?_ hS ?_ ?_ ?_ dL_link_22
      · exact rfl
      · exact hW.to (by rfl)
      · decide
      · exact (Nat.le_of_ble_eq_true rfl)
      · exact (Nat.le_of_ble_eq_true rfl)
  | inr x0 =>
    refine mt_cV1 (v := .int x0) (As := [.int x, .int y, .int v]) (rest := [.int 0, .ref (ad 300)]) S pv_X3_link mw_ml_L_45 (k_X3_link l hlt g z ad lc mc bc N G o d h6 h8 hb6 x y v) hC hW hS wc_0 rfl rfl rfl hl.1 rfl (Nat.le_of_ble_eq_true rfl) dL_link_7 ⟨(Nat.le_of_ble_eq_true rfl), (Nat.le_of_ble_eq_true rfl)⟩ ⟨(Nat.le_of_ble_eq_true rfl), (Nat.le_of_ble_eq_true rfl)⟩ (congrArg (a₂ := .inr x0) xr_i hq) (fun H locs hW hS => ?_)
    refine lv_i2l (v := x0.toInt64) hx hb dL_link_10 rfl ?_
    refine mt_last S hC hW hS (k := 300) rfl (vp_in_nI (Nat.zero_lt_one) (by decide)) dL_link_11 (fun H locs hW hS => ?_)
    have hW := hW.to wc_seto
    refine lv_goto (tgt := 23) hx hb dL_link_12 (by decide) ?_
    refine lv_iconst (v := 0) hx hb dL_link_23 (by decide) ?_
    refine mt_riL (ad1 := ad) S hr hk ?_ ?_ hS ?_ ?_ ?_ dL_link_24
    · exact rfl
    · exact hW.to (by rfl)
    · rfl
    · exact (Nat.le_of_ble_eq_true rfl)
    · exact (Nat.le_of_ble_eq_true rfl)
set_option maxRecDepth 100000 in
set_option maxHeartbeats 4000000 in
theorem k_L_remove (l : Launch) (hlt : l.stackTraces = false) (g : mt_G) (z : Nat) (ad : Nat → Nat) (lc mc bc : Nat) (N G : Nat → Nat → Int32) (o : Nat → Int64) (d : mt_D) (h6 : lc ≤ 6) (h8 : mc ≤ 8) (hb6 : bc ≤ 6) (x : Int32)  : mt_KL l g z yL_remove cL_remove 4 [(0, 9, 12, 19), (0, 9, 15, 40)] 8 136 2 12 [.ref (ad 0), .int x, .ref (ad 300)] (mt_wc g ad lc mc bc N G o d) ad (scase (c_X3_remove lc mc bc N G x) (fun E => if E = "java/lang/IllegalArgumentException" then 1 else if E = "java/util/NoSuchElementException" then 2 else 0) (fun _ => 0)) (fun a => scase (c_X3_remove lc mc bc N G x) (fun _ => mt_wc g a lc mc bc N (c_X3_remove_G lc mc bc N G x) o d) (fun x0 => mt_wc g a lc mc bc N (c_X3_remove_G lc mc bc N G x) (vp_updL o 0 x0.toInt64) d)) (fun a => a = ad) := by
  refine mt_ofWL (by decide +kernel) (Nat.le_of_ble_eq_true rfl) ?_
  intro p e s m args below meth c S hr hk hT hC hW hS ls hl
  have hx := S.1
  have hb := S.2.1
  have hl : lv_has ls 4 [(0, .ref (ad 0)), (1, .int x), (2, .ref (ad 300))] := hl
  refine lv_aload_n hx hb dL_remove_0 rfl (lv_at hl 2 rfl) ?_
  refine lv_iconst (v := 0) hx hb dL_remove_1 (by decide) ?_
  refine lv_aload_n hx hb dL_remove_2 rfl (lv_at hl 0 rfl) ?_
  refine lv_iload_n hx hb dL_remove_3 rfl (lv_at hl 1 rfl) ?_
  cases hq : c_X3_remove lc mc bc N G x with
  | inl E =>
    have hE := t_X3_remove hq
    refine mt_cVx (As := [.int x]) (rest := [.int 0, .ref (ad 300)]) S pv_X3_remove mw_ml_L_48 (k_X3_remove l hlt g z ad lc mc bc N G o d h6 h8 hb6 x) hC hW hS wc_0 rfl rfl rfl hl.1 rfl (Nat.le_of_ble_eq_true rfl) dL_remove_4 ⟨(Nat.le_of_ble_eq_true rfl), (Nat.le_of_ble_eq_true rfl)⟩ ⟨(Nat.le_of_ble_eq_true rfl), (Nat.le_of_ble_eq_true rfl)⟩ (congrArg (a₂ := .inl E) xr_i hq) (fun H locs q ce hW hS h1 h2 h3 => ?_)
    rcases hE with rfl | rfl
    · refine mt_catch (name := "java/lang/IllegalArgumentException") S hT hC [] ⟨0, 9, 12, 19⟩ [⟨0, 9, 15, 40⟩] rfl (fun z hz => by cases hz) rfl (by decide) mw_cl_L_19 mw_ca_java_lang_IllegalArgumentException_java_lang_IllegalArgumentException h1 h2 h3 ?_
      refine lv_astore_n (lv' := [(3, .ref q), (0, .ref (ad 0)), (1, .int x), (2, .ref (ad 300))]) hx hb dL_remove_12 rfl hl (by decide) rfl (fun ls hl => ?_)
      refine lv_iconst (v := 1) hx hb dL_remove_13 (by decide) ?_
      refine mt_riL (ad1 := ad) S hr hk ?_ ?_ hS ?_ ?_ ?_ dL_remove_14
      · exact rfl
      · exact hW.to (by rfl)
      · decide
      · exact (Nat.le_of_ble_eq_true rfl)
      · exact (Nat.le_of_ble_eq_true rfl)
    · refine mt_catch (name := "java/util/NoSuchElementException") S hT hC [⟨0, 9, 12, 19⟩] ⟨0, 9, 15, 40⟩ [] rfl (by intro z hz; simp only [List.mem_cons, List.not_mem_nil, or_false] at hz; rcases hz with rfl <;> first | exact ⟨by decide, "java/lang/IllegalArgumentException", mw_cl_L_19, List.mem_of_getElem? (i := 61) rfl⟩) rfl (by decide) mw_cl_L_40 mw_ca_java_util_NoSuchElementException_java_util_NoSuchElementException h1 h2 h3 ?_
      refine lv_astore_n (lv' := [(3, .ref q), (0, .ref (ad 0)), (1, .int x), (2, .ref (ad 300))]) hx hb dL_remove_15 rfl hl (by decide) rfl (fun ls hl => ?_)
      refine lv_iconst (v := 2) hx hb dL_remove_16 (by decide) ?_
      refine mt_riL (ad1 := ad) S hr hk ?_ ?_ hS ?_ ?_ ?_ dL_remove_17
      · exact rfl
      · exact hW.to (by rfl)
      · decide
      · exact (Nat.le_of_ble_eq_true rfl)
      · exact (Nat.le_of_ble_eq_true rfl)
  | inr x0 =>
    refine mt_cV1 (v := .int x0) (As := [.int x]) (rest := [.int 0, .ref (ad 300)]) S pv_X3_remove mw_ml_L_48 (k_X3_remove l hlt g z ad lc mc bc N G o d h6 h8 hb6 x) hC hW hS wc_0 rfl rfl rfl hl.1 rfl (Nat.le_of_ble_eq_true rfl) dL_remove_4 ⟨(Nat.le_of_ble_eq_true rfl), (Nat.le_of_ble_eq_true rfl)⟩ ⟨(Nat.le_of_ble_eq_true rfl), (Nat.le_of_ble_eq_true rfl)⟩ (congrArg (a₂ := .inr x0) xr_i hq) (fun H locs hW hS => ?_)
    refine lv_i2l (v := x0.toInt64) hx hb dL_remove_7 rfl ?_
    refine mt_last S hC hW hS (k := 300) rfl (vp_in_nI (Nat.zero_lt_one) (by decide)) dL_remove_8 (fun H locs hW hS => ?_)
    have hW := hW.to wc_seto
    refine lv_goto (tgt := 18) hx hb dL_remove_9 (by decide) ?_
    refine lv_iconst (v := 0) hx hb dL_remove_18 (by decide) ?_
    refine mt_riL (ad1 := ad) S hr hk ?_ ?_ hS ?_ ?_ ?_ dL_remove_19
    · exact rfl
    · exact hW.to (by rfl)
    · rfl
    · exact (Nat.le_of_ble_eq_true rfl)
    · exact (Nat.le_of_ble_eq_true rfl)
set_option maxRecDepth 100000 in
set_option maxHeartbeats 4000000 in
theorem k_L_shows (l : Launch) (hlt : l.stackTraces = false) (g : mt_G) (z : Nat) (ad : Nat → Nat) (lc mc bc : Nat) (N G : Nat → Nat → Int32) (o : Nat → Int64) (d : mt_D) (h6 : lc ≤ 6) (h8 : mc ≤ 8) (hb6 : bc ≤ 6) (x : Int32)  : mt_KL l g z yL_shows cL_shows 4 [(0, 9, 12, 19)] 8 125 1 6 [.ref (ad 0), .int x, .ref (ad 300)] (mt_wc g ad lc mc bc N G o d) ad (scase (c_X3_shows lc mc bc N G x) (fun E => if E = "java/lang/IllegalArgumentException" then 1 else 0) (fun _ => 0)) (fun a => scase (c_X3_shows lc mc bc N G x) (fun _ => mt_wc g a lc mc bc N G o d) (fun x0 => mt_wc g a lc mc bc N G (vp_updL o 0 x0.toInt64) d)) (fun a => a = ad) := by
  refine mt_ofWL (by decide +kernel) (Nat.le_of_ble_eq_true rfl) ?_
  intro p e s m args below meth c S hr hk hT hC hW hS ls hl
  have hx := S.1
  have hb := S.2.1
  have hl : lv_has ls 4 [(0, .ref (ad 0)), (1, .int x), (2, .ref (ad 300))] := hl
  refine lv_aload_n hx hb dL_shows_0 rfl (lv_at hl 2 rfl) ?_
  refine lv_iconst (v := 0) hx hb dL_shows_1 (by decide) ?_
  refine lv_aload_n hx hb dL_shows_2 rfl (lv_at hl 0 rfl) ?_
  refine lv_iload_n hx hb dL_shows_3 rfl (lv_at hl 1 rfl) ?_
  cases hq : c_X3_shows lc mc bc N G x with
  | inl E =>
    have hE := t_X3_shows hq
    refine mt_cVx (As := [.int x]) (rest := [.int 0, .ref (ad 300)]) S pv_X3_shows mw_ml_L_51 (k_X3_shows l hlt g z ad lc mc bc N G o d h6 h8 hb6 x) hC hW hS wc_0 rfl rfl rfl hl.1 rfl (Nat.le_of_ble_eq_true rfl) dL_shows_4 ⟨(Nat.le_of_ble_eq_true rfl), (Nat.le_of_ble_eq_true rfl)⟩ ⟨(Nat.le_of_ble_eq_true rfl), (Nat.le_of_ble_eq_true rfl)⟩ (congrArg (a₂ := .inl E) xr_i hq) (fun H locs q ce hW hS h1 h2 h3 => ?_)
    rcases hE with rfl
    · refine mt_catch (name := "java/lang/IllegalArgumentException") S hT hC [] ⟨0, 9, 12, 19⟩ [] rfl (fun z hz => by cases hz) rfl (by decide) mw_cl_L_19 mw_ca_java_lang_IllegalArgumentException_java_lang_IllegalArgumentException h1 h2 h3 ?_
      refine lv_astore_n (lv' := [(3, .ref q), (0, .ref (ad 0)), (1, .int x), (2, .ref (ad 300))]) hx hb dL_shows_12 rfl hl (by decide) rfl (fun ls hl => ?_)
      refine lv_iconst (v := 1) hx hb dL_shows_13 (by decide) ?_
      refine mt_riL (ad1 := ad) S hr hk ?_ ?_ hS ?_ ?_ ?_ dL_shows_14
      · exact rfl
      · exact hW.to (by rfl)
      · decide
      · exact (Nat.le_of_ble_eq_true rfl)
      · exact (Nat.le_of_ble_eq_true rfl)
  | inr x0 =>
    refine mt_cV1 (v := .int x0) (As := [.int x]) (rest := [.int 0, .ref (ad 300)]) S pv_X3_shows mw_ml_L_51 (k_X3_shows l hlt g z ad lc mc bc N G o d h6 h8 hb6 x) hC hW hS wc_0 rfl rfl rfl hl.1 rfl (Nat.le_of_ble_eq_true rfl) dL_shows_4 ⟨(Nat.le_of_ble_eq_true rfl), (Nat.le_of_ble_eq_true rfl)⟩ ⟨(Nat.le_of_ble_eq_true rfl), (Nat.le_of_ble_eq_true rfl)⟩ (congrArg (a₂ := .inr x0) xr_i hq) (fun H locs hW hS => ?_)
    refine lv_i2l (v := x0.toInt64) hx hb dL_shows_7 rfl ?_
    refine mt_last S hC hW hS (k := 300) rfl (vp_in_nI (Nat.zero_lt_one) (by decide)) dL_shows_8 (fun H locs hW hS => ?_)
    have hW := hW.to wc_seto
    refine lv_goto (tgt := 15) hx hb dL_shows_9 (by decide) ?_
    refine lv_iconst (v := 0) hx hb dL_shows_15 (by decide) ?_
    refine mt_riL (ad1 := ad) S hr hk ?_ ?_ hS ?_ ?_ ?_ dL_shows_16
    · exact rfl
    · exact hW.to (by rfl)
    · rfl
    · exact (Nat.le_of_ble_eq_true rfl)
    · exact (Nat.le_of_ble_eq_true rfl)
set_option maxRecDepth 100000 in
set_option maxHeartbeats 4000000 in
theorem k_L_layerOf (l : Launch) (hlt : l.stackTraces = false) (g : mt_G) (z : Nat) (ad : Nat → Nat) (lc mc bc : Nat) (N G : Nat → Nat → Int32) (o : Nat → Int64) (d : mt_D) (h6 : lc ≤ 6) (h8 : mc ≤ 8) (hb6 : bc ≤ 6) (x : Int32)  : mt_KL l g z yL_layerOf cL_layerOf 4 [(0, 9, 12, 19), (0, 9, 15, 40)] 8 125 2 12 [.ref (ad 0), .int x, .ref (ad 300)] (mt_wc g ad lc mc bc N G o d) ad (scase (c_X3_layerOf lc mc bc N G x) (fun E => if E = "java/lang/IllegalArgumentException" then 1 else if E = "java/util/NoSuchElementException" then 2 else 0) (fun _ => 0)) (fun a => scase (c_X3_layerOf lc mc bc N G x) (fun _ => mt_wc g a lc mc bc N G o d) (fun x0 => mt_wc g a lc mc bc N G (vp_updL o 0 x0.toInt64) d)) (fun a => a = ad) := by
  refine mt_ofWL (by decide +kernel) (Nat.le_of_ble_eq_true rfl) ?_
  intro p e s m args below meth c S hr hk hT hC hW hS ls hl
  have hx := S.1
  have hb := S.2.1
  have hl : lv_has ls 4 [(0, .ref (ad 0)), (1, .int x), (2, .ref (ad 300))] := hl
  refine lv_aload_n hx hb dL_layerOf_0 rfl (lv_at hl 2 rfl) ?_
  refine lv_iconst (v := 0) hx hb dL_layerOf_1 (by decide) ?_
  refine lv_aload_n hx hb dL_layerOf_2 rfl (lv_at hl 0 rfl) ?_
  refine lv_iload_n hx hb dL_layerOf_3 rfl (lv_at hl 1 rfl) ?_
  cases hq : c_X3_layerOf lc mc bc N G x with
  | inl E =>
    have hE := t_X3_layerOf hq
    refine mt_cVx (As := [.int x]) (rest := [.int 0, .ref (ad 300)]) S pv_X3_layerOf mw_ml_L_55 (k_X3_layerOf l hlt g z ad lc mc bc N G o d h6 h8 hb6 x) hC hW hS wc_0 rfl rfl rfl hl.1 rfl (Nat.le_of_ble_eq_true rfl) dL_layerOf_4 ⟨(Nat.le_of_ble_eq_true rfl), (Nat.le_of_ble_eq_true rfl)⟩ ⟨(Nat.le_of_ble_eq_true rfl), (Nat.le_of_ble_eq_true rfl)⟩ (congrArg (a₂ := .inl E) xr_i hq) (fun H locs q ce hW hS h1 h2 h3 => ?_)
    rcases hE with rfl | rfl
    · refine mt_catch (name := "java/lang/IllegalArgumentException") S hT hC [] ⟨0, 9, 12, 19⟩ [⟨0, 9, 15, 40⟩] rfl (fun z hz => by cases hz) rfl (by decide) mw_cl_L_19 mw_ca_java_lang_IllegalArgumentException_java_lang_IllegalArgumentException h1 h2 h3 ?_
      refine lv_astore_n (lv' := [(3, .ref q), (0, .ref (ad 0)), (1, .int x), (2, .ref (ad 300))]) hx hb dL_layerOf_12 rfl hl (by decide) rfl (fun ls hl => ?_)
      refine lv_iconst (v := 1) hx hb dL_layerOf_13 (by decide) ?_
      refine mt_riL (ad1 := ad) S hr hk ?_ ?_ hS ?_ ?_ ?_ dL_layerOf_14
      · exact rfl
      · exact hW.to (by rfl)
      · decide
      · exact (Nat.le_of_ble_eq_true rfl)
      · exact (Nat.le_of_ble_eq_true rfl)
    · refine mt_catch (name := "java/util/NoSuchElementException") S hT hC [⟨0, 9, 12, 19⟩] ⟨0, 9, 15, 40⟩ [] rfl (by intro z hz; simp only [List.mem_cons, List.not_mem_nil, or_false] at hz; rcases hz with rfl <;> first | exact ⟨by decide, "java/lang/IllegalArgumentException", mw_cl_L_19, List.mem_of_getElem? (i := 61) rfl⟩) rfl (by decide) mw_cl_L_40 mw_ca_java_util_NoSuchElementException_java_util_NoSuchElementException h1 h2 h3 ?_
      refine lv_astore_n (lv' := [(3, .ref q), (0, .ref (ad 0)), (1, .int x), (2, .ref (ad 300))]) hx hb dL_layerOf_15 rfl hl (by decide) rfl (fun ls hl => ?_)
      refine lv_iconst (v := 2) hx hb dL_layerOf_16 (by decide) ?_
      refine mt_riL (ad1 := ad) S hr hk ?_ ?_ hS ?_ ?_ ?_ dL_layerOf_17
      · exact rfl
      · exact hW.to (by rfl)
      · decide
      · exact (Nat.le_of_ble_eq_true rfl)
      · exact (Nat.le_of_ble_eq_true rfl)
  | inr x0 =>
    refine mt_cV1 (v := .int x0) (As := [.int x]) (rest := [.int 0, .ref (ad 300)]) S pv_X3_layerOf mw_ml_L_55 (k_X3_layerOf l hlt g z ad lc mc bc N G o d h6 h8 hb6 x) hC hW hS wc_0 rfl rfl rfl hl.1 rfl (Nat.le_of_ble_eq_true rfl) dL_layerOf_4 ⟨(Nat.le_of_ble_eq_true rfl), (Nat.le_of_ble_eq_true rfl)⟩ ⟨(Nat.le_of_ble_eq_true rfl), (Nat.le_of_ble_eq_true rfl)⟩ (congrArg (a₂ := .inr x0) xr_i hq) (fun H locs hW hS => ?_)
    refine lv_i2l (v := x0.toInt64) hx hb dL_layerOf_7 rfl ?_
    refine mt_last S hC hW hS (k := 300) rfl (vp_in_nI (Nat.zero_lt_one) (by decide)) dL_layerOf_8 (fun H locs hW hS => ?_)
    have hW := hW.to wc_seto
    refine lv_goto (tgt := 18) hx hb dL_layerOf_9 (by decide) ?_
    refine lv_iconst (v := 0) hx hb dL_layerOf_18 (by decide) ?_
    refine mt_riL (ad1 := ad) S hr hk ?_ ?_ hS ?_ ?_ ?_ dL_layerOf_19
    · exact rfl
    · exact hW.to (by rfl)
    · rfl
    · exact (Nat.le_of_ble_eq_true rfl)
    · exact (Nat.le_of_ble_eq_true rfl)
set_option maxRecDepth 100000 in
set_option maxHeartbeats 4000000 in
theorem k_L_end (l : Launch) (hlt : l.stackTraces = false) (g : mt_G) (z : Nat) (ad : Nat → Nat) (lc mc bc : Nat) (N G : Nat → Nat → Int32) (o : Nat → Int64) (d : mt_D) (h6 : lc ≤ 6) (h8 : mc ≤ 8) (hb6 : bc ≤ 6) (x : Int32)  : mt_KL l g z yL_end cL_end 4 [(0, 9, 12, 19), (0, 9, 15, 23), (0, 9, 18, 13)] 8 135 2 12 [.ref (ad 0), .int x, .ref (ad 300)] (mt_wc g ad lc mc bc N G o d) ad (scase (c_X3_end lc mc bc N G x) (fun E => if E = "java/lang/IllegalArgumentException" then 1 else if E = "java/lang/UnsupportedOperationException" then 2 else if E = "java/lang/IllegalStateException" then 3 else 0) (fun _ => 0)) (fun a => scase (c_X3_end lc mc bc N G x) (fun _ => mt_wc g a lc mc bc N G o d) (fun x0 => mt_wc g a lc mc bc N G (vp_updL o 0 x0.toInt64) d)) (fun a => a = ad) := by
  refine mt_ofWL (by decide +kernel) (Nat.le_of_ble_eq_true rfl) ?_
  intro p e s m args below meth c S hr hk hT hC hW hS ls hl
  have hx := S.1
  have hb := S.2.1
  have hl : lv_has ls 4 [(0, .ref (ad 0)), (1, .int x), (2, .ref (ad 300))] := hl
  refine lv_aload_n hx hb dL_end_0 rfl (lv_at hl 2 rfl) ?_
  refine lv_iconst (v := 0) hx hb dL_end_1 (by decide) ?_
  refine lv_aload_n hx hb dL_end_2 rfl (lv_at hl 0 rfl) ?_
  refine lv_iload_n hx hb dL_end_3 rfl (lv_at hl 1 rfl) ?_
  cases hq : c_X3_end lc mc bc N G x with
  | inl E =>
    have hE := t_X3_end hq
    refine mt_cVx (As := [.int x]) (rest := [.int 0, .ref (ad 300)]) S pv_X3_end mw_ml_L_58 (k_X3_end l hlt g z ad lc mc bc N G o d h6 h8 hb6 x) hC hW hS wc_0 rfl rfl rfl hl.1 rfl (Nat.le_of_ble_eq_true rfl) dL_end_4 ⟨(Nat.le_of_ble_eq_true rfl), (Nat.le_of_ble_eq_true rfl)⟩ ⟨(Nat.le_of_ble_eq_true rfl), (Nat.le_of_ble_eq_true rfl)⟩ (congrArg (a₂ := .inl E) xr_i hq) (fun H locs q ce hW hS h1 h2 h3 => ?_)
    rcases hE with rfl | rfl | rfl
    · refine mt_catch (name := "java/lang/IllegalArgumentException") S hT hC [] ⟨0, 9, 12, 19⟩ [⟨0, 9, 15, 23⟩, ⟨0, 9, 18, 13⟩] rfl (fun z hz => by cases hz) rfl (by decide) mw_cl_L_19 mw_ca_java_lang_IllegalArgumentException_java_lang_IllegalArgumentException h1 h2 h3 ?_
      refine lv_astore_n (lv' := [(3, .ref q), (0, .ref (ad 0)), (1, .int x), (2, .ref (ad 300))]) hx hb dL_end_12 rfl hl (by decide) rfl (fun ls hl => ?_)
      refine lv_iconst (v := 1) hx hb dL_end_13 (by decide) ?_
      refine mt_riL (ad1 := ad) S hr hk ?_ ?_ hS ?_ ?_ ?_ dL_end_14
      · exact rfl
      · exact hW.to (by rfl)
      · decide
      · exact (Nat.le_of_ble_eq_true rfl)
      · exact (Nat.le_of_ble_eq_true rfl)
    · refine mt_catch (name := "java/lang/UnsupportedOperationException") S hT hC [⟨0, 9, 12, 19⟩] ⟨0, 9, 15, 23⟩ [⟨0, 9, 18, 13⟩] rfl (by intro z hz; simp only [List.mem_cons, List.not_mem_nil, or_false] at hz; rcases hz with rfl <;> first | exact ⟨by decide, "java/lang/IllegalArgumentException", mw_cl_L_19, List.mem_of_getElem? (i := 56) rfl⟩) rfl (by decide) mw_cl_L_23 mw_ca_java_lang_UnsupportedOperationException_java_lang_UnsupportedOperationException h1 h2 h3 ?_
      refine lv_astore_n (lv' := [(3, .ref q), (0, .ref (ad 0)), (1, .int x), (2, .ref (ad 300))]) hx hb dL_end_15 rfl hl (by decide) rfl (fun ls hl => ?_)
      refine lv_iconst (v := 2) hx hb dL_end_16 (by decide) ?_
      refine mt_riL (ad1 := ad) S hr hk ?_ ?_ hS ?_ ?_ ?_ dL_end_17
      · exact rfl
      · exact hW.to (by rfl)
      · decide
      · exact (Nat.le_of_ble_eq_true rfl)
      · exact (Nat.le_of_ble_eq_true rfl)
    · refine mt_catch (name := "java/lang/IllegalStateException") S hT hC [⟨0, 9, 12, 19⟩, ⟨0, 9, 15, 23⟩] ⟨0, 9, 18, 13⟩ [] rfl (by intro z hz; simp only [List.mem_cons, List.not_mem_nil, or_false] at hz; rcases hz with rfl | rfl <;> first | exact ⟨by decide, "java/lang/IllegalArgumentException", mw_cl_L_19, List.mem_of_getElem? (i := 46) rfl⟩ | exact ⟨by decide, "java/lang/UnsupportedOperationException", mw_cl_L_23, List.mem_of_getElem? (i := 48) rfl⟩) rfl (by decide) mw_cl_L_13 mw_ca_java_lang_IllegalStateException_java_lang_IllegalStateException h1 h2 h3 ?_
      refine lv_astore_n (lv' := [(3, .ref q), (0, .ref (ad 0)), (1, .int x), (2, .ref (ad 300))]) hx hb dL_end_18 rfl hl (by decide) rfl (fun ls hl => ?_)
      refine lv_iconst (v := 3) hx hb dL_end_19 (by decide) ?_
      refine mt_riL (ad1 := ad) S hr hk ?_ ?_ hS ?_ ?_ ?_ dL_end_20
      · exact rfl
      · exact hW.to (by rfl)
      · decide
      · exact (Nat.le_of_ble_eq_true rfl)
      · exact (Nat.le_of_ble_eq_true rfl)
  | inr x0 =>
    refine mt_cV1 (v := .int x0) (As := [.int x]) (rest := [.int 0, .ref (ad 300)]) S pv_X3_end mw_ml_L_58 (k_X3_end l hlt g z ad lc mc bc N G o d h6 h8 hb6 x) hC hW hS wc_0 rfl rfl rfl hl.1 rfl (Nat.le_of_ble_eq_true rfl) dL_end_4 ⟨(Nat.le_of_ble_eq_true rfl), (Nat.le_of_ble_eq_true rfl)⟩ ⟨(Nat.le_of_ble_eq_true rfl), (Nat.le_of_ble_eq_true rfl)⟩ (congrArg (a₂ := .inr x0) xr_i hq) (fun H locs hW hS => ?_)
    refine lv_i2l (v := x0.toInt64) hx hb dL_end_7 rfl ?_
    refine mt_last S hC hW hS (k := 300) rfl (vp_in_nI (Nat.zero_lt_one) (by decide)) dL_end_8 (fun H locs hW hS => ?_)
    have hW := hW.to wc_seto
    refine lv_goto (tgt := 21) hx hb dL_end_9 (by decide) ?_
    refine lv_iconst (v := 0) hx hb dL_end_21 (by decide) ?_
    refine mt_riL (ad1 := ad) S hr hk ?_ ?_ hS ?_ ?_ ?_ dL_end_22
    · exact rfl
    · exact hW.to (by rfl)
    · rfl
    · exact (Nat.le_of_ble_eq_true rfl)
    · exact (Nat.le_of_ble_eq_true rfl)
set_option maxRecDepth 100000 in
set_option maxHeartbeats 4000000 in
theorem k_L_size (l : Launch) (hlt : l.stackTraces = false) (g : mt_G) (z : Nat) (ad : Nat → Nat) (lc mc bc : Nat) (N G : Nat → Nat → Int32) (o : Nat → Int64) (d : mt_D) (h6 : lc ≤ 6) (h8 : mc ≤ 8) (hb6 : bc ≤ 6) (x : Int32)  : mt_KL l g z yL_size cL_size 4 [(0, 9, 12, 19), (0, 9, 15, 23), (0, 9, 18, 13), (0, 9, 21, 40)] 8 136 3 18 [.ref (ad 0), .int x, .ref (ad 300)] (mt_wc g ad lc mc bc N G o d) ad (scase (c_X3_size lc mc bc N G x) (fun E => if E = "java/lang/IllegalArgumentException" then 1 else if E = "java/lang/UnsupportedOperationException" then 2 else if E = "java/lang/IllegalStateException" then 3 else if E = "java/util/NoSuchElementException" then 4 else 0) (fun _ => 0)) (fun a => scase (c_X3_size lc mc bc N G x) (fun _ => mt_wc g a lc mc bc N G o d) (fun x0 => mt_wc g a lc mc bc N G (vp_updL o 0 x0.toInt64) d)) (fun a => a = ad) := by
  refine mt_ofWL (by decide +kernel) (Nat.le_of_ble_eq_true rfl) ?_
  intro p e s m args below meth c S hr hk hT hC hW hS ls hl
  have hx := S.1
  have hb := S.2.1
  have hl : lv_has ls 4 [(0, .ref (ad 0)), (1, .int x), (2, .ref (ad 300))] := hl
  refine lv_aload_n hx hb dL_size_0 rfl (lv_at hl 2 rfl) ?_
  refine lv_iconst (v := 0) hx hb dL_size_1 (by decide) ?_
  refine lv_aload_n hx hb dL_size_2 rfl (lv_at hl 0 rfl) ?_
  refine lv_iload_n hx hb dL_size_3 rfl (lv_at hl 1 rfl) ?_
  cases hq : c_X3_size lc mc bc N G x with
  | inl E =>
    have hE := t_X3_size hq
    refine mt_cVx (As := [.int x]) (rest := [.int 0, .ref (ad 300)]) S pv_X3_size mw_ml_L_61 (k_X3_size l hlt g z ad lc mc bc N G o d h6 h8 hb6 x) hC hW hS wc_0 rfl rfl rfl hl.1 rfl (Nat.le_of_ble_eq_true rfl) dL_size_4 ⟨(Nat.le_of_ble_eq_true rfl), (Nat.le_of_ble_eq_true rfl)⟩ ⟨(Nat.le_of_ble_eq_true rfl), (Nat.le_of_ble_eq_true rfl)⟩ (congrArg (a₂ := .inl E) xr_i hq) (fun H locs q ce hW hS h1 h2 h3 => ?_)
    rcases hE with rfl | rfl | rfl | rfl
    · refine mt_catch (name := "java/lang/IllegalArgumentException") S hT hC [] ⟨0, 9, 12, 19⟩ [⟨0, 9, 15, 23⟩, ⟨0, 9, 18, 13⟩, ⟨0, 9, 21, 40⟩] rfl (fun z hz => by cases hz) rfl (by decide) mw_cl_L_19 mw_ca_java_lang_IllegalArgumentException_java_lang_IllegalArgumentException h1 h2 h3 ?_
      refine lv_astore_n (lv' := [(3, .ref q), (0, .ref (ad 0)), (1, .int x), (2, .ref (ad 300))]) hx hb dL_size_12 rfl hl (by decide) rfl (fun ls hl => ?_)
      refine lv_iconst (v := 1) hx hb dL_size_13 (by decide) ?_
      refine mt_riL (ad1 := ad) S hr hk ?_ ?_ hS ?_ ?_ ?_ dL_size_14
      · exact rfl
      · exact hW.to (by rfl)
      · decide
      · exact (Nat.le_of_ble_eq_true rfl)
      · exact (Nat.le_of_ble_eq_true rfl)
    · refine mt_catch (name := "java/lang/UnsupportedOperationException") S hT hC [⟨0, 9, 12, 19⟩] ⟨0, 9, 15, 23⟩ [⟨0, 9, 18, 13⟩, ⟨0, 9, 21, 40⟩] rfl (by intro z hz; simp only [List.mem_cons, List.not_mem_nil, or_false] at hz; rcases hz with rfl <;> first | exact ⟨by decide, "java/lang/IllegalArgumentException", mw_cl_L_19, List.mem_of_getElem? (i := 56) rfl⟩) rfl (by decide) mw_cl_L_23 mw_ca_java_lang_UnsupportedOperationException_java_lang_UnsupportedOperationException h1 h2 h3 ?_
      refine lv_astore_n (lv' := [(3, .ref q), (0, .ref (ad 0)), (1, .int x), (2, .ref (ad 300))]) hx hb dL_size_15 rfl hl (by decide) rfl (fun ls hl => ?_)
      refine lv_iconst (v := 2) hx hb dL_size_16 (by decide) ?_
      refine mt_riL (ad1 := ad) S hr hk ?_ ?_ hS ?_ ?_ ?_ dL_size_17
      · exact rfl
      · exact hW.to (by rfl)
      · decide
      · exact (Nat.le_of_ble_eq_true rfl)
      · exact (Nat.le_of_ble_eq_true rfl)
    · refine mt_catch (name := "java/lang/IllegalStateException") S hT hC [⟨0, 9, 12, 19⟩, ⟨0, 9, 15, 23⟩] ⟨0, 9, 18, 13⟩ [⟨0, 9, 21, 40⟩] rfl (by intro z hz; simp only [List.mem_cons, List.not_mem_nil, or_false] at hz; rcases hz with rfl | rfl <;> first | exact ⟨by decide, "java/lang/IllegalArgumentException", mw_cl_L_19, List.mem_of_getElem? (i := 46) rfl⟩ | exact ⟨by decide, "java/lang/UnsupportedOperationException", mw_cl_L_23, List.mem_of_getElem? (i := 48) rfl⟩) rfl (by decide) mw_cl_L_13 mw_ca_java_lang_IllegalStateException_java_lang_IllegalStateException h1 h2 h3 ?_
      refine lv_astore_n (lv' := [(3, .ref q), (0, .ref (ad 0)), (1, .int x), (2, .ref (ad 300))]) hx hb dL_size_18 rfl hl (by decide) rfl (fun ls hl => ?_)
      refine lv_iconst (v := 3) hx hb dL_size_19 (by decide) ?_
      refine mt_riL (ad1 := ad) S hr hk ?_ ?_ hS ?_ ?_ ?_ dL_size_20
      · exact rfl
      · exact hW.to (by rfl)
      · decide
      · exact (Nat.le_of_ble_eq_true rfl)
      · exact (Nat.le_of_ble_eq_true rfl)
    · refine mt_catch (name := "java/util/NoSuchElementException") S hT hC [⟨0, 9, 12, 19⟩, ⟨0, 9, 15, 23⟩, ⟨0, 9, 18, 13⟩] ⟨0, 9, 21, 40⟩ [] rfl (by intro z hz; simp only [List.mem_cons, List.not_mem_nil, or_false] at hz; rcases hz with rfl | rfl | rfl <;> first | exact ⟨by decide, "java/lang/IllegalArgumentException", mw_cl_L_19, List.mem_of_getElem? (i := 61) rfl⟩ | exact ⟨by decide, "java/lang/UnsupportedOperationException", mw_cl_L_23, List.mem_of_getElem? (i := 64) rfl⟩ | exact ⟨by decide, "java/lang/IllegalStateException", mw_cl_L_13, List.mem_of_getElem? (i := 62) rfl⟩) rfl (by decide) mw_cl_L_40 mw_ca_java_util_NoSuchElementException_java_util_NoSuchElementException h1 h2 h3 ?_
      refine lv_astore_n (lv' := [(3, .ref q), (0, .ref (ad 0)), (1, .int x), (2, .ref (ad 300))]) hx hb dL_size_21 rfl hl (by decide) rfl (fun ls hl => ?_)
      refine lv_iconst (v := 4) hx hb dL_size_22 (by decide) ?_
      refine mt_riL (ad1 := ad) S hr hk ?_ ?_ hS ?_ ?_ ?_ dL_size_23
      · exact rfl
      · exact hW.to (by rfl)
      · decide
      · exact (Nat.le_of_ble_eq_true rfl)
      · exact (Nat.le_of_ble_eq_true rfl)
  | inr x0 =>
    refine mt_cV1 (v := .int x0) (As := [.int x]) (rest := [.int 0, .ref (ad 300)]) S pv_X3_size mw_ml_L_61 (k_X3_size l hlt g z ad lc mc bc N G o d h6 h8 hb6 x) hC hW hS wc_0 rfl rfl rfl hl.1 rfl (Nat.le_of_ble_eq_true rfl) dL_size_4 ⟨(Nat.le_of_ble_eq_true rfl), (Nat.le_of_ble_eq_true rfl)⟩ ⟨(Nat.le_of_ble_eq_true rfl), (Nat.le_of_ble_eq_true rfl)⟩ (congrArg (a₂ := .inr x0) xr_i hq) (fun H locs hW hS => ?_)
    refine lv_i2l (v := x0.toInt64) hx hb dL_size_7 rfl ?_
    refine mt_last S hC hW hS (k := 300) rfl (vp_in_nI (Nat.zero_lt_one) (by decide)) dL_size_8 (fun H locs hW hS => ?_)
    have hW := hW.to wc_seto
    refine lv_goto (tgt := 24) hx hb dL_size_9 (by decide) ?_
    refine lv_iconst (v := 0) hx hb dL_size_24 (by decide) ?_
    refine mt_riL (ad1 := ad) S hr hk ?_ ?_ hS ?_ ?_ ?_ dL_size_25
    · exact rfl
    · exact hW.to (by rfl)
    · rfl
    · exact (Nat.le_of_ble_eq_true rfl)
    · exact (Nat.le_of_ble_eq_true rfl)
set_option maxRecDepth 100000 in
set_option maxHeartbeats 4000000 in
theorem k_L_sizeByWalking (l : Launch) (hlt : l.stackTraces = false) (g : mt_G) (z : Nat) (ad : Nat → Nat) (lc mc bc : Nat) (N G : Nat → Nat → Int32) (o : Nat → Int64) (d : mt_D) (h6 : lc ≤ 6) (h8 : mc ≤ 8) (hb6 : bc ≤ 6) (x : Int32)  : mt_KL l g z yL_sizeByWalking cL_sizeByWalking 4 [(0, 9, 12, 19)] 8 128 1 6 [.ref (ad 0), .int x, .ref (ad 300)] (mt_wc g ad lc mc bc N G o d) ad (scase (c_X3_sizeByWalking lc mc bc N G x) (fun E => if E = "java/lang/IllegalArgumentException" then 1 else 0) (fun _ => 0)) (fun a => scase (c_X3_sizeByWalking lc mc bc N G x) (fun _ => mt_wc g a lc mc bc N G o d) (fun x0 => mt_wc g a lc mc bc N G (vp_updL o 0 x0.toInt64) d)) (fun a => a = ad) := by
  refine mt_ofWL (by decide +kernel) (Nat.le_of_ble_eq_true rfl) ?_
  intro p e s m args below meth c S hr hk hT hC hW hS ls hl
  have hx := S.1
  have hb := S.2.1
  have hl : lv_has ls 4 [(0, .ref (ad 0)), (1, .int x), (2, .ref (ad 300))] := hl
  refine lv_aload_n hx hb dL_sizeByWalking_0 rfl (lv_at hl 2 rfl) ?_
  refine lv_iconst (v := 0) hx hb dL_sizeByWalking_1 (by decide) ?_
  refine lv_aload_n hx hb dL_sizeByWalking_2 rfl (lv_at hl 0 rfl) ?_
  refine lv_iload_n hx hb dL_sizeByWalking_3 rfl (lv_at hl 1 rfl) ?_
  cases hq : c_X3_sizeByWalking lc mc bc N G x with
  | inl E =>
    have hE := t_X3_sizeByWalking hq
    refine mt_cVx (As := [.int x]) (rest := [.int 0, .ref (ad 300)]) S pv_X3_sizeByWalking mw_ml_L_64 (k_X3_sizeByWalking l hlt g z ad lc mc bc N G o d h6 h8 hb6 x) hC hW hS wc_0 rfl rfl rfl hl.1 rfl (Nat.le_of_ble_eq_true rfl) dL_sizeByWalking_4 ⟨(Nat.le_of_ble_eq_true rfl), (Nat.le_of_ble_eq_true rfl)⟩ ⟨(Nat.le_of_ble_eq_true rfl), (Nat.le_of_ble_eq_true rfl)⟩ (congrArg (a₂ := .inl E) xr_i hq) (fun H locs q ce hW hS h1 h2 h3 => ?_)
    rcases hE with rfl
    · refine mt_catch (name := "java/lang/IllegalArgumentException") S hT hC [] ⟨0, 9, 12, 19⟩ [] rfl (fun z hz => by cases hz) rfl (by decide) mw_cl_L_19 mw_ca_java_lang_IllegalArgumentException_java_lang_IllegalArgumentException h1 h2 h3 ?_
      refine lv_astore_n (lv' := [(3, .ref q), (0, .ref (ad 0)), (1, .int x), (2, .ref (ad 300))]) hx hb dL_sizeByWalking_12 rfl hl (by decide) rfl (fun ls hl => ?_)
      refine lv_iconst (v := 1) hx hb dL_sizeByWalking_13 (by decide) ?_
      refine mt_riL (ad1 := ad) S hr hk ?_ ?_ hS ?_ ?_ ?_ dL_sizeByWalking_14
      · exact rfl
      · exact hW.to (by rfl)
      · decide
      · exact (Nat.le_of_ble_eq_true rfl)
      · exact (Nat.le_of_ble_eq_true rfl)
  | inr x0 =>
    refine mt_cV1 (v := .int x0) (As := [.int x]) (rest := [.int 0, .ref (ad 300)]) S pv_X3_sizeByWalking mw_ml_L_64 (k_X3_sizeByWalking l hlt g z ad lc mc bc N G o d h6 h8 hb6 x) hC hW hS wc_0 rfl rfl rfl hl.1 rfl (Nat.le_of_ble_eq_true rfl) dL_sizeByWalking_4 ⟨(Nat.le_of_ble_eq_true rfl), (Nat.le_of_ble_eq_true rfl)⟩ ⟨(Nat.le_of_ble_eq_true rfl), (Nat.le_of_ble_eq_true rfl)⟩ (congrArg (a₂ := .inr x0) xr_i hq) (fun H locs hW hS => ?_)
    refine lv_i2l (v := x0.toInt64) hx hb dL_sizeByWalking_7 rfl ?_
    refine mt_last S hC hW hS (k := 300) rfl (vp_in_nI (Nat.zero_lt_one) (by decide)) dL_sizeByWalking_8 (fun H locs hW hS => ?_)
    have hW := hW.to wc_seto
    refine lv_goto (tgt := 15) hx hb dL_sizeByWalking_9 (by decide) ?_
    refine lv_iconst (v := 0) hx hb dL_sizeByWalking_15 (by decide) ?_
    refine mt_riL (ad1 := ad) S hr hk ?_ ?_ hS ?_ ?_ ?_ dL_sizeByWalking_16
    · exact rfl
    · exact hW.to (by rfl)
    · rfl
    · exact (Nat.le_of_ble_eq_true rfl)
    · exact (Nat.le_of_ble_eq_true rfl)
set_option maxRecDepth 100000 in
set_option maxHeartbeats 4000000 in
theorem k_L_ownerOf (l : Launch) (hlt : l.stackTraces = false) (g : mt_G) (z : Nat) (ad : Nat → Nat) (lc mc bc : Nat) (N G : Nat → Nat → Int32) (o : Nat → Int64) (d : mt_D) (h6 : lc ≤ 6) (h8 : mc ≤ 8) (hb6 : bc ≤ 6) (x : Int32)  : mt_KL l g z yL_ownerOf cL_ownerOf 4 [(0, 9, 12, 19), (0, 9, 15, 40)] 8 132 2 12 [.ref (ad 0), .int x, .ref (ad 300)] (mt_wc g ad lc mc bc N G o d) ad (scase (c_X3_ownerOf lc mc bc N G x) (fun E => if E = "java/lang/IllegalArgumentException" then 1 else if E = "java/util/NoSuchElementException" then 2 else 0) (fun _ => 0)) (fun a => scase (c_X3_ownerOf lc mc bc N G x) (fun _ => mt_wc g a lc mc bc N G o d) (fun x0 => mt_wc g a lc mc bc N G (vp_updL o 0 x0.toInt64) d)) (fun a => a = ad) := by
  refine mt_ofWL (by decide +kernel) (Nat.le_of_ble_eq_true rfl) ?_
  intro p e s m args below meth c S hr hk hT hC hW hS ls hl
  have hx := S.1
  have hb := S.2.1
  have hl : lv_has ls 4 [(0, .ref (ad 0)), (1, .int x), (2, .ref (ad 300))] := hl
  refine lv_aload_n hx hb dL_ownerOf_0 rfl (lv_at hl 2 rfl) ?_
  refine lv_iconst (v := 0) hx hb dL_ownerOf_1 (by decide) ?_
  refine lv_aload_n hx hb dL_ownerOf_2 rfl (lv_at hl 0 rfl) ?_
  refine lv_iload_n hx hb dL_ownerOf_3 rfl (lv_at hl 1 rfl) ?_
  cases hq : c_X3_ownerOf lc mc bc N G x with
  | inl E =>
    have hE := t_X3_ownerOf hq
    refine mt_cVx (As := [.int x]) (rest := [.int 0, .ref (ad 300)]) S pv_X3_ownerOf mw_ml_L_67 (k_X3_ownerOf l hlt g z ad lc mc bc N G o d h6 h8 hb6 x) hC hW hS wc_0 rfl rfl rfl hl.1 rfl (Nat.le_of_ble_eq_true rfl) dL_ownerOf_4 ⟨(Nat.le_of_ble_eq_true rfl), (Nat.le_of_ble_eq_true rfl)⟩ ⟨(Nat.le_of_ble_eq_true rfl), (Nat.le_of_ble_eq_true rfl)⟩ (congrArg (a₂ := .inl E) xr_i hq) (fun H locs q ce hW hS h1 h2 h3 => ?_)
    rcases hE with rfl | rfl
    · refine mt_catch (name := "java/lang/IllegalArgumentException") S hT hC [] ⟨0, 9, 12, 19⟩ [⟨0, 9, 15, 40⟩] rfl (fun z hz => by cases hz) rfl (by decide) mw_cl_L_19 mw_ca_java_lang_IllegalArgumentException_java_lang_IllegalArgumentException h1 h2 h3 ?_
      refine lv_astore_n (lv' := [(3, .ref q), (0, .ref (ad 0)), (1, .int x), (2, .ref (ad 300))]) hx hb dL_ownerOf_12 rfl hl (by decide) rfl (fun ls hl => ?_)
      refine lv_iconst (v := 1) hx hb dL_ownerOf_13 (by decide) ?_
      refine mt_riL (ad1 := ad) S hr hk ?_ ?_ hS ?_ ?_ ?_ dL_ownerOf_14
      · exact rfl
      · exact hW.to (by rfl)
      · decide
      · exact (Nat.le_of_ble_eq_true rfl)
      · exact (Nat.le_of_ble_eq_true rfl)
    · refine mt_catch (name := "java/util/NoSuchElementException") S hT hC [⟨0, 9, 12, 19⟩] ⟨0, 9, 15, 40⟩ [] rfl (by intro z hz; simp only [List.mem_cons, List.not_mem_nil, or_false] at hz; rcases hz with rfl <;> first | exact ⟨by decide, "java/lang/IllegalArgumentException", mw_cl_L_19, List.mem_of_getElem? (i := 61) rfl⟩) rfl (by decide) mw_cl_L_40 mw_ca_java_util_NoSuchElementException_java_util_NoSuchElementException h1 h2 h3 ?_
      refine lv_astore_n (lv' := [(3, .ref q), (0, .ref (ad 0)), (1, .int x), (2, .ref (ad 300))]) hx hb dL_ownerOf_15 rfl hl (by decide) rfl (fun ls hl => ?_)
      refine lv_iconst (v := 2) hx hb dL_ownerOf_16 (by decide) ?_
      refine mt_riL (ad1 := ad) S hr hk ?_ ?_ hS ?_ ?_ ?_ dL_ownerOf_17
      · exact rfl
      · exact hW.to (by rfl)
      · decide
      · exact (Nat.le_of_ble_eq_true rfl)
      · exact (Nat.le_of_ble_eq_true rfl)
  | inr x0 =>
    refine mt_cV1 (v := .int x0) (As := [.int x]) (rest := [.int 0, .ref (ad 300)]) S pv_X3_ownerOf mw_ml_L_67 (k_X3_ownerOf l hlt g z ad lc mc bc N G o d h6 h8 hb6 x) hC hW hS wc_0 rfl rfl rfl hl.1 rfl (Nat.le_of_ble_eq_true rfl) dL_ownerOf_4 ⟨(Nat.le_of_ble_eq_true rfl), (Nat.le_of_ble_eq_true rfl)⟩ ⟨(Nat.le_of_ble_eq_true rfl), (Nat.le_of_ble_eq_true rfl)⟩ (congrArg (a₂ := .inr x0) xr_i hq) (fun H locs hW hS => ?_)
    refine lv_i2l (v := x0.toInt64) hx hb dL_ownerOf_7 rfl ?_
    refine mt_last S hC hW hS (k := 300) rfl (vp_in_nI (Nat.zero_lt_one) (by decide)) dL_ownerOf_8 (fun H locs hW hS => ?_)
    have hW := hW.to wc_seto
    refine lv_goto (tgt := 18) hx hb dL_ownerOf_9 (by decide) ?_
    refine lv_iconst (v := 0) hx hb dL_ownerOf_18 (by decide) ?_
    refine mt_riL (ad1 := ad) S hr hk ?_ ?_ hS ?_ ?_ ?_ dL_ownerOf_19
    · exact rfl
    · exact hW.to (by rfl)
    · rfl
    · exact (Nat.le_of_ble_eq_true rfl)
    · exact (Nat.le_of_ble_eq_true rfl)
set_option maxRecDepth 100000 in
set_option maxHeartbeats 4000000 in
theorem k_L_setQuota (l : Launch) (hlt : l.stackTraces = false) (g : mt_G) (z : Nat) (ad : Nat → Nat) (lc mc bc : Nat) (N G : Nat → Nat → Int32) (o : Nat → Int64) (d : mt_D) (h6 : lc ≤ 6) (h8 : mc ≤ 8) (hb6 : bc ≤ 6) (x : Int32) (y : Int32)  : mt_KL l g z yL_setQuota cL_setQuota 5 [(0, 10, 13, 19)] 8 125 2 12 [.ref (ad 0), .int x, .int y, .ref (ad 300)] (mt_wc g ad lc mc bc N G o d) ad (scase (c_X3_setQuota lc mc bc N G x y) (fun E => if E = "java/lang/IllegalArgumentException" then 1 else 0) (fun _ => 0)) (fun a => scase (c_X3_setQuota lc mc bc N G x y) (fun _ => mt_wc g a lc mc bc N (c_X3_setQuota_G lc mc bc N G x y) o d) (fun x0 => mt_wc g a lc mc bc N (c_X3_setQuota_G lc mc bc N G x y) (vp_updL o 0 x0.toInt64) d)) (fun a => a = ad) := by
  refine mt_ofWL (by decide +kernel) (Nat.le_of_ble_eq_true rfl) ?_
  intro p e s m args below meth c S hr hk hT hC hW hS ls hl
  have hx := S.1
  have hb := S.2.1
  have hl : lv_has ls 5 [(0, .ref (ad 0)), (1, .int x), (2, .int y), (3, .ref (ad 300))] := hl
  refine lv_aload_n hx hb dL_setQuota_0 rfl (lv_at hl 3 rfl) ?_
  refine lv_iconst (v := 0) hx hb dL_setQuota_1 (by decide) ?_
  refine lv_aload_n hx hb dL_setQuota_2 rfl (lv_at hl 0 rfl) ?_
  refine lv_iload_n hx hb dL_setQuota_3 rfl (lv_at hl 1 rfl) ?_
  refine lv_iload_n hx hb dL_setQuota_4 rfl (lv_at hl 2 rfl) ?_
  cases hq : c_X3_setQuota lc mc bc N G x y with
  | inl E =>
    have hE := t_X3_setQuota hq
    refine mt_cVx (As := [.int x, .int y]) (rest := [.int 0, .ref (ad 300)]) S pv_X3_setQuota mw_ml_L_70 (k_X3_setQuota l hlt g z ad lc mc bc N G o d h6 h8 hb6 x y) hC hW hS wc_0 rfl rfl rfl hl.1 rfl (Nat.le_of_ble_eq_true rfl) dL_setQuota_5 ⟨(Nat.le_of_ble_eq_true rfl), (Nat.le_of_ble_eq_true rfl)⟩ ⟨(Nat.le_of_ble_eq_true rfl), (Nat.le_of_ble_eq_true rfl)⟩ (congrArg (a₂ := .inl E) xr_i hq) (fun H locs q ce hW hS h1 h2 h3 => ?_)
    rcases hE with rfl
    · refine mt_catch (name := "java/lang/IllegalArgumentException") S hT hC [] ⟨0, 10, 13, 19⟩ [] rfl (fun z hz => by cases hz) rfl (by decide) mw_cl_L_19 mw_ca_java_lang_IllegalArgumentException_java_lang_IllegalArgumentException h1 h2 h3 ?_
      refine lv_astore (lv' := [(4, .ref q), (0, .ref (ad 0)), (1, .int x), (2, .int y), (3, .ref (ad 300))]) hx hb dL_setQuota_13 hl (by decide) rfl (fun ls hl => ?_)
      refine lv_iconst (v := 1) hx hb dL_setQuota_15 (by decide) ?_
      refine mt_riL (ad1 := ad) S hr hk ?_ ?_ hS ?_ ?_ ?_ dL_setQuota_16
      · exact rfl
      · exact hW.to (by rfl)
      · decide
      · exact (Nat.le_of_ble_eq_true rfl)
      · exact (Nat.le_of_ble_eq_true rfl)
  | inr x0 =>
    refine mt_cV1 (v := .int x0) (As := [.int x, .int y]) (rest := [.int 0, .ref (ad 300)]) S pv_X3_setQuota mw_ml_L_70 (k_X3_setQuota l hlt g z ad lc mc bc N G o d h6 h8 hb6 x y) hC hW hS wc_0 rfl rfl rfl hl.1 rfl (Nat.le_of_ble_eq_true rfl) dL_setQuota_5 ⟨(Nat.le_of_ble_eq_true rfl), (Nat.le_of_ble_eq_true rfl)⟩ ⟨(Nat.le_of_ble_eq_true rfl), (Nat.le_of_ble_eq_true rfl)⟩ (congrArg (a₂ := .inr x0) xr_i hq) (fun H locs hW hS => ?_)
    refine lv_i2l (v := x0.toInt64) hx hb dL_setQuota_8 rfl ?_
    refine mt_last S hC hW hS (k := 300) rfl (vp_in_nI (Nat.zero_lt_one) (by decide)) dL_setQuota_9 (fun H locs hW hS => ?_)
    have hW := hW.to wc_seto
    refine lv_goto (tgt := 17) hx hb dL_setQuota_10 (by decide) ?_
    refine lv_iconst (v := 0) hx hb dL_setQuota_17 (by decide) ?_
    refine mt_riL (ad1 := ad) S hr hk ?_ ?_ hS ?_ ?_ ?_ dL_setQuota_18
    · exact rfl
    · exact hW.to (by rfl)
    · rfl
    · exact (Nat.le_of_ble_eq_true rfl)
    · exact (Nat.le_of_ble_eq_true rfl)
set_option maxRecDepth 100000 in
set_option maxHeartbeats 4000000 in
theorem k_L_used (l : Launch) (hlt : l.stackTraces = false) (g : mt_G) (z : Nat) (ad : Nat → Nat) (lc mc bc : Nat) (N G : Nat → Nat → Int32) (o : Nat → Int64) (d : mt_D) (h6 : lc ≤ 6) (h8 : mc ≤ 8) (hb6 : bc ≤ 6) (x : Int32)  : mt_KL l g z yL_used cL_used 4 [(0, 9, 12, 19)] 8 123 1 6 [.ref (ad 0), .int x, .ref (ad 300)] (mt_wc g ad lc mc bc N G o d) ad (scase (c_X3_used lc mc bc N G x) (fun E => if E = "java/lang/IllegalArgumentException" then 1 else 0) (fun _ => 0)) (fun a => scase (c_X3_used lc mc bc N G x) (fun _ => mt_wc g a lc mc bc N G o d) (fun x0 => mt_wc g a lc mc bc N G (vp_updL o 0 x0.toInt64) d)) (fun a => a = ad) := by
  refine mt_ofWL (by decide +kernel) (Nat.le_of_ble_eq_true rfl) ?_
  intro p e s m args below meth c S hr hk hT hC hW hS ls hl
  have hx := S.1
  have hb := S.2.1
  have hl : lv_has ls 4 [(0, .ref (ad 0)), (1, .int x), (2, .ref (ad 300))] := hl
  refine lv_aload_n hx hb dL_used_0 rfl (lv_at hl 2 rfl) ?_
  refine lv_iconst (v := 0) hx hb dL_used_1 (by decide) ?_
  refine lv_aload_n hx hb dL_used_2 rfl (lv_at hl 0 rfl) ?_
  refine lv_iload_n hx hb dL_used_3 rfl (lv_at hl 1 rfl) ?_
  cases hq : c_X3_used lc mc bc N G x with
  | inl E =>
    have hE := t_X3_used hq
    refine mt_cVx (As := [.int x]) (rest := [.int 0, .ref (ad 300)]) S pv_X3_used mw_ml_L_73 (k_X3_used l hlt g z ad lc mc bc N G o d h6 h8 hb6 x) hC hW hS wc_0 rfl rfl rfl hl.1 rfl (Nat.le_of_ble_eq_true rfl) dL_used_4 ⟨(Nat.le_of_ble_eq_true rfl), (Nat.le_of_ble_eq_true rfl)⟩ ⟨(Nat.le_of_ble_eq_true rfl), (Nat.le_of_ble_eq_true rfl)⟩ (congrArg (a₂ := .inl E) xr_i hq) (fun H locs q ce hW hS h1 h2 h3 => ?_)
    rcases hE with rfl
    · refine mt_catch (name := "java/lang/IllegalArgumentException") S hT hC [] ⟨0, 9, 12, 19⟩ [] rfl (fun z hz => by cases hz) rfl (by decide) mw_cl_L_19 mw_ca_java_lang_IllegalArgumentException_java_lang_IllegalArgumentException h1 h2 h3 ?_
      refine lv_astore_n (lv' := [(3, .ref q), (0, .ref (ad 0)), (1, .int x), (2, .ref (ad 300))]) hx hb dL_used_12 rfl hl (by decide) rfl (fun ls hl => ?_)
      refine lv_iconst (v := 1) hx hb dL_used_13 (by decide) ?_
      refine mt_riL (ad1 := ad) S hr hk ?_ ?_ hS ?_ ?_ ?_ dL_used_14
      · exact rfl
      · exact hW.to (by rfl)
      · decide
      · exact (Nat.le_of_ble_eq_true rfl)
      · exact (Nat.le_of_ble_eq_true rfl)
  | inr x0 =>
    refine mt_cV1 (v := .int x0) (As := [.int x]) (rest := [.int 0, .ref (ad 300)]) S pv_X3_used mw_ml_L_73 (k_X3_used l hlt g z ad lc mc bc N G o d h6 h8 hb6 x) hC hW hS wc_0 rfl rfl rfl hl.1 rfl (Nat.le_of_ble_eq_true rfl) dL_used_4 ⟨(Nat.le_of_ble_eq_true rfl), (Nat.le_of_ble_eq_true rfl)⟩ ⟨(Nat.le_of_ble_eq_true rfl), (Nat.le_of_ble_eq_true rfl)⟩ (congrArg (a₂ := .inr x0) xr_i hq) (fun H locs hW hS => ?_)
    refine lv_i2l (v := x0.toInt64) hx hb dL_used_7 rfl ?_
    refine mt_last S hC hW hS (k := 300) rfl (vp_in_nI (Nat.zero_lt_one) (by decide)) dL_used_8 (fun H locs hW hS => ?_)
    have hW := hW.to wc_seto
    refine lv_goto (tgt := 15) hx hb dL_used_9 (by decide) ?_
    refine lv_iconst (v := 0) hx hb dL_used_15 (by decide) ?_
    refine mt_riL (ad1 := ad) S hr hk ?_ ?_ hS ?_ ?_ ?_ dL_used_16
    · exact rfl
    · exact hW.to (by rfl)
    · rfl
    · exact (Nat.le_of_ble_eq_true rfl)
    · exact (Nat.le_of_ble_eq_true rfl)
set_option maxRecDepth 100000 in
set_option maxHeartbeats 4000000 in
theorem k_L_usedByLayers (l : Launch) (hlt : l.stackTraces = false) (g : mt_G) (z : Nat) (ad : Nat → Nat) (lc mc bc : Nat) (N G : Nat → Nat → Int32) (o : Nat → Int64) (d : mt_D) (h6 : lc ≤ 6) (h8 : mc ≤ 8) (hb6 : bc ≤ 6) (x : Int32)  : mt_KL l g z yL_usedByLayers cL_usedByLayers 4 [(0, 9, 12, 19)] 8 126 1 6 [.ref (ad 0), .int x, .ref (ad 300)] (mt_wc g ad lc mc bc N G o d) ad (scase (c_X3_usedByLayers lc mc bc N G x) (fun E => if E = "java/lang/IllegalArgumentException" then 1 else 0) (fun _ => 0)) (fun a => scase (c_X3_usedByLayers lc mc bc N G x) (fun _ => mt_wc g a lc mc bc N G o d) (fun x0 => mt_wc g a lc mc bc N G (vp_updL o 0 x0.toInt64) d)) (fun a => a = ad) := by
  refine mt_ofWL (by decide +kernel) (Nat.le_of_ble_eq_true rfl) ?_
  intro p e s m args below meth c S hr hk hT hC hW hS ls hl
  have hx := S.1
  have hb := S.2.1
  have hl : lv_has ls 4 [(0, .ref (ad 0)), (1, .int x), (2, .ref (ad 300))] := hl
  refine lv_aload_n hx hb dL_usedByLayers_0 rfl (lv_at hl 2 rfl) ?_
  refine lv_iconst (v := 0) hx hb dL_usedByLayers_1 (by decide) ?_
  refine lv_aload_n hx hb dL_usedByLayers_2 rfl (lv_at hl 0 rfl) ?_
  refine lv_iload_n hx hb dL_usedByLayers_3 rfl (lv_at hl 1 rfl) ?_
  cases hq : c_X3_usedByLayers lc mc bc N G x with
  | inl E =>
    have hE := t_X3_usedByLayers hq
    refine mt_cVx (As := [.int x]) (rest := [.int 0, .ref (ad 300)]) S pv_X3_usedByLayers mw_ml_L_76 (k_X3_usedByLayers l hlt g z ad lc mc bc N G o d h6 h8 hb6 x) hC hW hS wc_0 rfl rfl rfl hl.1 rfl (Nat.le_of_ble_eq_true rfl) dL_usedByLayers_4 ⟨(Nat.le_of_ble_eq_true rfl), (Nat.le_of_ble_eq_true rfl)⟩ ⟨(Nat.le_of_ble_eq_true rfl), (Nat.le_of_ble_eq_true rfl)⟩ (congrArg (a₂ := .inl E) xr_i hq) (fun H locs q ce hW hS h1 h2 h3 => ?_)
    rcases hE with rfl
    · refine mt_catch (name := "java/lang/IllegalArgumentException") S hT hC [] ⟨0, 9, 12, 19⟩ [] rfl (fun z hz => by cases hz) rfl (by decide) mw_cl_L_19 mw_ca_java_lang_IllegalArgumentException_java_lang_IllegalArgumentException h1 h2 h3 ?_
      refine lv_astore_n (lv' := [(3, .ref q), (0, .ref (ad 0)), (1, .int x), (2, .ref (ad 300))]) hx hb dL_usedByLayers_12 rfl hl (by decide) rfl (fun ls hl => ?_)
      refine lv_iconst (v := 1) hx hb dL_usedByLayers_13 (by decide) ?_
      refine mt_riL (ad1 := ad) S hr hk ?_ ?_ hS ?_ ?_ ?_ dL_usedByLayers_14
      · exact rfl
      · exact hW.to (by rfl)
      · decide
      · exact (Nat.le_of_ble_eq_true rfl)
      · exact (Nat.le_of_ble_eq_true rfl)
  | inr x0 =>
    refine mt_cV1 (v := .int x0) (As := [.int x]) (rest := [.int 0, .ref (ad 300)]) S pv_X3_usedByLayers mw_ml_L_76 (k_X3_usedByLayers l hlt g z ad lc mc bc N G o d h6 h8 hb6 x) hC hW hS wc_0 rfl rfl rfl hl.1 rfl (Nat.le_of_ble_eq_true rfl) dL_usedByLayers_4 ⟨(Nat.le_of_ble_eq_true rfl), (Nat.le_of_ble_eq_true rfl)⟩ ⟨(Nat.le_of_ble_eq_true rfl), (Nat.le_of_ble_eq_true rfl)⟩ (congrArg (a₂ := .inr x0) xr_i hq) (fun H locs hW hS => ?_)
    refine lv_i2l (v := x0.toInt64) hx hb dL_usedByLayers_7 rfl ?_
    refine mt_last S hC hW hS (k := 300) rfl (vp_in_nI (Nat.zero_lt_one) (by decide)) dL_usedByLayers_8 (fun H locs hW hS => ?_)
    have hW := hW.to wc_seto
    refine lv_goto (tgt := 15) hx hb dL_usedByLayers_9 (by decide) ?_
    refine lv_iconst (v := 0) hx hb dL_usedByLayers_15 (by decide) ?_
    refine mt_riL (ad1 := ad) S hr hk ?_ ?_ hS ?_ ?_ ?_ dL_usedByLayers_16
    · exact rfl
    · exact hW.to (by rfl)
    · rfl
    · exact (Nat.le_of_ble_eq_true rfl)
    · exact (Nat.le_of_ble_eq_true rfl)
set_option maxRecDepth 100000 in
set_option maxHeartbeats 4000000 in
theorem k_L_whiteouts (l : Launch) (hlt : l.stackTraces = false) (g : mt_G) (z : Nat) (ad : Nat → Nat) (lc mc bc : Nat) (N G : Nat → Nat → Int32) (o : Nat → Int64) (d : mt_D) (h6 : lc ≤ 6) (h8 : mc ≤ 8) (hb6 : bc ≤ 6) (x : Int32)  : mt_KL l g z yL_whiteouts cL_whiteouts 4 [(0, 9, 12, 21)] 8 125 1 6 [.ref (ad 0), .int x, .ref (ad 300)] (mt_wc g ad lc mc bc N G o d) ad (scase (c_X3_whiteouts lc mc bc N G x) (fun E => if E = "java/lang/IndexOutOfBoundsException" then 1 else 0) (fun _ => 0)) (fun a => scase (c_X3_whiteouts lc mc bc N G x) (fun _ => mt_wc g a lc mc bc N G o d) (fun x0 => mt_wc g a lc mc bc N G (vp_updL o 0 x0.toInt64) d)) (fun a => a = ad) := by
  refine mt_ofWL (by decide +kernel) (Nat.le_of_ble_eq_true rfl) ?_
  intro p e s m args below meth c S hr hk hT hC hW hS ls hl
  have hx := S.1
  have hb := S.2.1
  have hl : lv_has ls 4 [(0, .ref (ad 0)), (1, .int x), (2, .ref (ad 300))] := hl
  refine lv_aload_n hx hb dL_whiteouts_0 rfl (lv_at hl 2 rfl) ?_
  refine lv_iconst (v := 0) hx hb dL_whiteouts_1 (by decide) ?_
  refine lv_aload_n hx hb dL_whiteouts_2 rfl (lv_at hl 0 rfl) ?_
  refine lv_iload_n hx hb dL_whiteouts_3 rfl (lv_at hl 1 rfl) ?_
  cases hq : c_X3_whiteouts lc mc bc N G x with
  | inl E =>
    have hE := t_X3_whiteouts hq
    refine mt_cVx (As := [.int x]) (rest := [.int 0, .ref (ad 300)]) S pv_X3_whiteouts mw_ml_L_79 (k_X3_whiteouts l hlt g z ad lc mc bc N G o d h6 h8 hb6 x) hC hW hS wc_0 rfl rfl rfl hl.1 rfl (Nat.le_of_ble_eq_true rfl) dL_whiteouts_4 ⟨(Nat.le_of_ble_eq_true rfl), (Nat.le_of_ble_eq_true rfl)⟩ ⟨(Nat.le_of_ble_eq_true rfl), (Nat.le_of_ble_eq_true rfl)⟩ (congrArg (a₂ := .inl E) xr_i hq) (fun H locs q ce hW hS h1 h2 h3 => ?_)
    rcases hE with rfl
    · refine mt_catch (name := "java/lang/IndexOutOfBoundsException") S hT hC [] ⟨0, 9, 12, 21⟩ [] rfl (fun z hz => by cases hz) rfl (by decide) mw_cl_L_21 mw_ca_java_lang_IndexOutOfBoundsException_java_lang_IndexOutOfBoundsException h1 h2 h3 ?_
      refine lv_astore_n (lv' := [(3, .ref q), (0, .ref (ad 0)), (1, .int x), (2, .ref (ad 300))]) hx hb dL_whiteouts_12 rfl hl (by decide) rfl (fun ls hl => ?_)
      refine lv_iconst (v := 1) hx hb dL_whiteouts_13 (by decide) ?_
      refine mt_riL (ad1 := ad) S hr hk ?_ ?_ hS ?_ ?_ ?_ dL_whiteouts_14
      · exact rfl
      · exact hW.to (by rfl)
      · decide
      · exact (Nat.le_of_ble_eq_true rfl)
      · exact (Nat.le_of_ble_eq_true rfl)
  | inr x0 =>
    refine mt_cV1 (v := .int x0) (As := [.int x]) (rest := [.int 0, .ref (ad 300)]) S pv_X3_whiteouts mw_ml_L_79 (k_X3_whiteouts l hlt g z ad lc mc bc N G o d h6 h8 hb6 x) hC hW hS wc_0 rfl rfl rfl hl.1 rfl (Nat.le_of_ble_eq_true rfl) dL_whiteouts_4 ⟨(Nat.le_of_ble_eq_true rfl), (Nat.le_of_ble_eq_true rfl)⟩ ⟨(Nat.le_of_ble_eq_true rfl), (Nat.le_of_ble_eq_true rfl)⟩ (congrArg (a₂ := .inr x0) xr_i hq) (fun H locs hW hS => ?_)
    refine lv_i2l (v := x0.toInt64) hx hb dL_whiteouts_7 rfl ?_
    refine mt_last S hC hW hS (k := 300) rfl (vp_in_nI (Nat.zero_lt_one) (by decide)) dL_whiteouts_8 (fun H locs hW hS => ?_)
    have hW := hW.to wc_seto
    refine lv_goto (tgt := 15) hx hb dL_whiteouts_9 (by decide) ?_
    refine lv_iconst (v := 0) hx hb dL_whiteouts_15 (by decide) ?_
    refine mt_riL (ad1 := ad) S hr hk ?_ ?_ hS ?_ ?_ ?_ dL_whiteouts_16
    · exact rfl
    · exact hW.to (by rfl)
    · rfl
    · exact (Nat.le_of_ble_eq_true rfl)
    · exact (Nat.le_of_ble_eq_true rfl)
set_option maxRecDepth 100000 in
set_option maxHeartbeats 4000000 in
theorem k_L_bytes (l : Launch) (hlt : l.stackTraces = false) (g : mt_G) (z : Nat) (ad : Nat → Nat) (lc mc bc : Nat) (N G : Nat → Nat → Int32) (o : Nat → Int64) (d : mt_D) (h6 : lc ≤ 6) (h8 : mc ≤ 8) (hb6 : bc ≤ 6) (x : Int32)  : mt_KL l g z yL_bytes cL_bytes 4 [(0, 9, 12, 21)] 8 125 1 6 [.ref (ad 0), .int x, .ref (ad 300)] (mt_wc g ad lc mc bc N G o d) ad (scase (c_X3_bytes lc mc bc N G x) (fun E => if E = "java/lang/IndexOutOfBoundsException" then 1 else 0) (fun _ => 0)) (fun a => scase (c_X3_bytes lc mc bc N G x) (fun _ => mt_wc g a lc mc bc N G o d) (fun x0 => mt_wc g a lc mc bc N G (vp_updL o 0 x0.toInt64) d)) (fun a => a = ad) := by
  refine mt_ofWL (by decide +kernel) (Nat.le_of_ble_eq_true rfl) ?_
  intro p e s m args below meth c S hr hk hT hC hW hS ls hl
  have hx := S.1
  have hb := S.2.1
  have hl : lv_has ls 4 [(0, .ref (ad 0)), (1, .int x), (2, .ref (ad 300))] := hl
  refine lv_aload_n hx hb dL_bytes_0 rfl (lv_at hl 2 rfl) ?_
  refine lv_iconst (v := 0) hx hb dL_bytes_1 (by decide) ?_
  refine lv_aload_n hx hb dL_bytes_2 rfl (lv_at hl 0 rfl) ?_
  refine lv_iload_n hx hb dL_bytes_3 rfl (lv_at hl 1 rfl) ?_
  cases hq : c_X3_bytes lc mc bc N G x with
  | inl E =>
    have hE := t_X3_bytes hq
    refine mt_cVx (As := [.int x]) (rest := [.int 0, .ref (ad 300)]) S pv_X3_bytes mw_ml_L_86 (k_X3_bytes l hlt g z ad lc mc bc N G o d h6 h8 hb6 x) hC hW hS wc_0 rfl rfl rfl hl.1 rfl (Nat.le_of_ble_eq_true rfl) dL_bytes_4 ⟨(Nat.le_of_ble_eq_true rfl), (Nat.le_of_ble_eq_true rfl)⟩ ⟨(Nat.le_of_ble_eq_true rfl), (Nat.le_of_ble_eq_true rfl)⟩ (congrArg (a₂ := .inl E) xr_i hq) (fun H locs q ce hW hS h1 h2 h3 => ?_)
    rcases hE with rfl
    · refine mt_catch (name := "java/lang/IndexOutOfBoundsException") S hT hC [] ⟨0, 9, 12, 21⟩ [] rfl (fun z hz => by cases hz) rfl (by decide) mw_cl_L_21 mw_ca_java_lang_IndexOutOfBoundsException_java_lang_IndexOutOfBoundsException h1 h2 h3 ?_
      refine lv_astore_n (lv' := [(3, .ref q), (0, .ref (ad 0)), (1, .int x), (2, .ref (ad 300))]) hx hb dL_bytes_12 rfl hl (by decide) rfl (fun ls hl => ?_)
      refine lv_iconst (v := 1) hx hb dL_bytes_13 (by decide) ?_
      refine mt_riL (ad1 := ad) S hr hk ?_ ?_ hS ?_ ?_ ?_ dL_bytes_14
      · exact rfl
      · exact hW.to (by rfl)
      · decide
      · exact (Nat.le_of_ble_eq_true rfl)
      · exact (Nat.le_of_ble_eq_true rfl)
  | inr x0 =>
    refine mt_cV1 (v := .int x0) (As := [.int x]) (rest := [.int 0, .ref (ad 300)]) S pv_X3_bytes mw_ml_L_86 (k_X3_bytes l hlt g z ad lc mc bc N G o d h6 h8 hb6 x) hC hW hS wc_0 rfl rfl rfl hl.1 rfl (Nat.le_of_ble_eq_true rfl) dL_bytes_4 ⟨(Nat.le_of_ble_eq_true rfl), (Nat.le_of_ble_eq_true rfl)⟩ ⟨(Nat.le_of_ble_eq_true rfl), (Nat.le_of_ble_eq_true rfl)⟩ (congrArg (a₂ := .inr x0) xr_i hq) (fun H locs hW hS => ?_)
    refine lv_i2l (v := x0.toInt64) hx hb dL_bytes_7 rfl ?_
    refine mt_last S hC hW hS (k := 300) rfl (vp_in_nI (Nat.zero_lt_one) (by decide)) dL_bytes_8 (fun H locs hW hS => ?_)
    have hW := hW.to wc_seto
    refine lv_goto (tgt := 15) hx hb dL_bytes_9 (by decide) ?_
    refine lv_iconst (v := 0) hx hb dL_bytes_15 (by decide) ?_
    refine mt_riL (ad1 := ad) S hr hk ?_ ?_ hS ?_ ?_ ?_ dL_bytes_16
    · exact rfl
    · exact hW.to (by rfl)
    · rfl
    · exact (Nat.le_of_ble_eq_true rfl)
    · exact (Nat.le_of_ble_eq_true rfl)
set_option maxRecDepth 100000 in
set_option maxHeartbeats 4000000 in
theorem k_L_differences (l : Launch) (hlt : l.stackTraces = false) (g : mt_G) (z : Nat) (ad : Nat → Nat) (lc mc bc : Nat) (N G : Nat → Nat → Int32) (o : Nat → Int64) (d : mt_D) (h6 : lc ≤ 6) (h8 : mc ≤ 8) (hb6 : bc ≤ 6) (x : Int32)  : mt_KL l g z yL_differences cL_differences 4 [(0, 9, 12, 21)] 8 155 1 6 [.ref (ad 0), .int x, .ref (ad 300)] (mt_wc g ad lc mc bc N G o d) ad (scase (c_X3_differences lc mc bc N G x) (fun E => if E = "java/lang/IndexOutOfBoundsException" then 1 else 0) (fun _ => 0)) (fun a => scase (c_X3_differences lc mc bc N G x) (fun _ => mt_wc g a lc mc bc N G o d) (fun x0 => mt_wc g a lc mc bc N G (vp_updL o 0 x0.toInt64) d)) (fun a => a = ad) := by
  refine mt_ofWL (by decide +kernel) (Nat.le_of_ble_eq_true rfl) ?_
  intro p e s m args below meth c S hr hk hT hC hW hS ls hl
  have hx := S.1
  have hb := S.2.1
  have hl : lv_has ls 4 [(0, .ref (ad 0)), (1, .int x), (2, .ref (ad 300))] := hl
  refine lv_aload_n hx hb dL_differences_0 rfl (lv_at hl 2 rfl) ?_
  refine lv_iconst (v := 0) hx hb dL_differences_1 (by decide) ?_
  refine lv_aload_n hx hb dL_differences_2 rfl (lv_at hl 0 rfl) ?_
  refine lv_iload_n hx hb dL_differences_3 rfl (lv_at hl 1 rfl) ?_
  cases hq : c_X3_differences lc mc bc N G x with
  | inl E =>
    have hE := t_X3_differences hq
    refine mt_cVx (As := [.int x]) (rest := [.int 0, .ref (ad 300)]) S pv_X3_differences mw_ml_L_89 (k_X3_differences l hlt g z ad lc mc bc N G o d h6 h8 hb6 x) hC hW hS wc_0 rfl rfl rfl hl.1 rfl (Nat.le_of_ble_eq_true rfl) dL_differences_4 ⟨(Nat.le_of_ble_eq_true rfl), (Nat.le_of_ble_eq_true rfl)⟩ ⟨(Nat.le_of_ble_eq_true rfl), (Nat.le_of_ble_eq_true rfl)⟩ (congrArg (a₂ := .inl E) xr_i hq) (fun H locs q ce hW hS h1 h2 h3 => ?_)
    rcases hE with rfl
    · refine mt_catch (name := "java/lang/IndexOutOfBoundsException") S hT hC [] ⟨0, 9, 12, 21⟩ [] rfl (fun z hz => by cases hz) rfl (by decide) mw_cl_L_21 mw_ca_java_lang_IndexOutOfBoundsException_java_lang_IndexOutOfBoundsException h1 h2 h3 ?_
      refine lv_astore_n (lv' := [(3, .ref q), (0, .ref (ad 0)), (1, .int x), (2, .ref (ad 300))]) hx hb dL_differences_12 rfl hl (by decide) rfl (fun ls hl => ?_)
      refine lv_iconst (v := 1) hx hb dL_differences_13 (by decide) ?_
      refine mt_riL (ad1 := ad) S hr hk ?_ ?_ hS ?_ ?_ ?_ dL_differences_14
      · exact rfl
      · exact hW.to (by rfl)
      · decide
      · exact (Nat.le_of_ble_eq_true rfl)
      · exact (Nat.le_of_ble_eq_true rfl)
  | inr x0 =>
    refine mt_cV1 (v := .int x0) (As := [.int x]) (rest := [.int 0, .ref (ad 300)]) S pv_X3_differences mw_ml_L_89 (k_X3_differences l hlt g z ad lc mc bc N G o d h6 h8 hb6 x) hC hW hS wc_0 rfl rfl rfl hl.1 rfl (Nat.le_of_ble_eq_true rfl) dL_differences_4 ⟨(Nat.le_of_ble_eq_true rfl), (Nat.le_of_ble_eq_true rfl)⟩ ⟨(Nat.le_of_ble_eq_true rfl), (Nat.le_of_ble_eq_true rfl)⟩ (congrArg (a₂ := .inr x0) xr_i hq) (fun H locs hW hS => ?_)
    refine lv_i2l (v := x0.toInt64) hx hb dL_differences_7 rfl ?_
    refine mt_last S hC hW hS (k := 300) rfl (vp_in_nI (Nat.zero_lt_one) (by decide)) dL_differences_8 (fun H locs hW hS => ?_)
    have hW := hW.to wc_seto
    refine lv_goto (tgt := 15) hx hb dL_differences_9 (by decide) ?_
    refine lv_iconst (v := 0) hx hb dL_differences_15 (by decide) ?_
    refine mt_riL (ad1 := ad) S hr hk ?_ ?_ hS ?_ ?_ ?_ dL_differences_16
    · exact rfl
    · exact hW.to (by rfl)
    · rfl
    · exact (Nat.le_of_ble_eq_true rfl)
    · exact (Nat.le_of_ble_eq_true rfl)
set_option maxRecDepth 100000 in
set_option maxHeartbeats 4000000 in
theorem k_L_shownShare (l : Launch) (hlt : l.stackTraces = false) (g : mt_G) (z : Nat) (ad : Nat → Nat) (lc mc bc : Nat) (N G : Nat → Nat → Int32) (o : Nat → Int64) (d : mt_D) (h6 : lc ≤ 6) (h8 : mc ≤ 8) (hb6 : bc ≤ 6)   : mt_KL l g z yL_shownShare cL_shownShare 3 [(0, 8, 11, 96)] 7 132 1 6 [.ref (ad 0), .ref (ad 301)] (mt_wc g ad lc mc bc N G o d) ad (scase (c_X3_shownShare lc mc bc N G) (fun E => if E = "java/lang/ArithmeticException" then 1 else 0) (fun _ => 0)) (fun a => scase (c_X3_shownShare lc mc bc N G) (fun _ => mt_wc g a lc mc bc N (c_X3_shownShare_G lc mc bc N G) o d) (fun x0 => mt_wc g a lc mc bc N (c_X3_shownShare_G lc mc bc N G) o (va_up d.1 0 (FP.f2d x0), d.2))) (fun a => a = ad) := by
  refine mt_ofWL (by decide +kernel) (Nat.le_of_ble_eq_true rfl) ?_
  intro p e s m args below meth c S hr hk hT hC hW hS ls hl
  have hx := S.1
  have hb := S.2.1
  have hl : lv_has ls 3 [(0, .ref (ad 0)), (1, .ref (ad 301))] := hl
  refine lv_aload_n hx hb dL_shownShare_0 rfl (lv_at hl 1 rfl) ?_
  refine lv_iconst (v := 0) hx hb dL_shownShare_1 (by decide) ?_
  refine lv_aload_n hx hb dL_shownShare_2 rfl (lv_at hl 0 rfl) ?_
  cases hq : c_X3_shownShare lc mc bc N G with
  | inl E =>
    have hE := t_X3_shownShare hq
    refine mt_cVx (As := []) (rest := [.int 0, .ref (ad 301)]) S pv_X3_shownShare mw_ml_L_92 (k_X3_shownShare l hlt g z ad lc mc bc N G o d h6 h8 hb6 ) hC hW hS wc_0 rfl rfl rfl hl.1 rfl (Nat.le_of_ble_eq_true rfl) dL_shownShare_3 ⟨(Nat.le_of_ble_eq_true rfl), (Nat.le_of_ble_eq_true rfl)⟩ ⟨(Nat.le_of_ble_eq_true rfl), (Nat.le_of_ble_eq_true rfl)⟩ (congrArg (a₂ := .inl E) xr_f hq) (fun H locs q ce hW hS h1 h2 h3 => ?_)
    rcases hE with rfl
    · refine mt_catch (name := "java/lang/ArithmeticException") S hT hC [] ⟨0, 8, 11, 96⟩ [] rfl (fun z hz => by cases hz) rfl (by decide) mw_cl_L_96 mw_ca_java_lang_ArithmeticException_java_lang_ArithmeticException h1 h2 h3 ?_
      refine lv_astore_n (lv' := [(2, .ref q), (0, .ref (ad 0)), (1, .ref (ad 301))]) hx hb dL_shownShare_11 rfl hl (by decide) rfl (fun ls hl => ?_)
      refine lv_iconst (v := 1) hx hb dL_shownShare_12 (by decide) ?_
      refine mt_riL (ad1 := ad) S hr hk ?_ ?_ hS ?_ ?_ ?_ dL_shownShare_13
      · exact rfl
      · exact hW.to (by rfl)
      · decide
      · exact (Nat.le_of_ble_eq_true rfl)
      · exact (Nat.le_of_ble_eq_true rfl)
  | inr x0 =>
    refine mt_cV1 (v := .float x0) (As := []) (rest := [.int 0, .ref (ad 301)]) S pv_X3_shownShare mw_ml_L_92 (k_X3_shownShare l hlt g z ad lc mc bc N G o d h6 h8 hb6 ) hC hW hS wc_0 rfl rfl rfl hl.1 rfl (Nat.le_of_ble_eq_true rfl) dL_shownShare_3 ⟨(Nat.le_of_ble_eq_true rfl), (Nat.le_of_ble_eq_true rfl)⟩ ⟨(Nat.le_of_ble_eq_true rfl), (Nat.le_of_ble_eq_true rfl)⟩ (congrArg (a₂ := .inr x0) xr_f hq) (fun H locs hW hS => ?_)
    refine lv_f2d hx hb dL_shownShare_6 (sh_n hq) ?_
    refine mt_dast S hC hW hS (k := 301) rfl (vp_in_nI (Nat.zero_lt_one) (by decide)) dL_shownShare_7 (fun H locs hW hS => ?_)
    have hW := hW.to wc_setd
    refine lv_goto (tgt := 14) hx hb dL_shownShare_8 (by decide) ?_
    refine lv_iconst (v := 0) hx hb dL_shownShare_14 (by decide) ?_
    refine mt_riL (ad1 := ad) S hr hk ?_ ?_ hS ?_ ?_ ?_ dL_shownShare_15
    · exact rfl
    · exact hW.to (by rfl)
    · rfl
    · exact (Nat.le_of_ble_eq_true rfl)
    · exact (Nat.le_of_ble_eq_true rfl)
set_option maxRecDepth 100000 in
set_option maxHeartbeats 4000000 in
theorem k_L_meanSize (l : Launch) (hlt : l.stackTraces = false) (g : mt_G) (z : Nat) (ad : Nat → Nat) (lc mc bc : Nat) (N G : Nat → Nat → Int32) (o : Nat → Int64) (d : mt_D) (h6 : lc ≤ 6) (h8 : mc ≤ 8) (hb6 : bc ≤ 6) (x : Int32)  : mt_KL l g z yL_meanSize cL_meanSize 4 [(0, 8, 11, 21), (0, 8, 14, 96)] 8 127 2 12 [.ref (ad 0), .int x, .ref (ad 301)] (mt_wc g ad lc mc bc N G o d) ad (scase (c_X3_meanSize lc mc bc N G x) (fun E => if E = "java/lang/IndexOutOfBoundsException" then 1 else if E = "java/lang/ArithmeticException" then 2 else 0) (fun _ => 0)) (fun a => scase (c_X3_meanSize lc mc bc N G x) (fun _ => mt_wc g a lc mc bc N G o d) (fun x0 => mt_wc g a lc mc bc N G o (va_up d.1 0 x0, d.2))) (fun a => a = ad) := by
  refine mt_ofWL (by decide +kernel) (Nat.le_of_ble_eq_true rfl) ?_
  intro p e s m args below meth c S hr hk hT hC hW hS ls hl
  have hx := S.1
  have hb := S.2.1
  have hl : lv_has ls 4 [(0, .ref (ad 0)), (1, .int x), (2, .ref (ad 301))] := hl
  refine lv_aload_n hx hb dL_meanSize_0 rfl (lv_at hl 2 rfl) ?_
  refine lv_iconst (v := 0) hx hb dL_meanSize_1 (by decide) ?_
  refine lv_aload_n hx hb dL_meanSize_2 rfl (lv_at hl 0 rfl) ?_
  refine lv_iload_n hx hb dL_meanSize_3 rfl (lv_at hl 1 rfl) ?_
  cases hq : c_X3_meanSize lc mc bc N G x with
  | inl E =>
    have hE := t_X3_meanSize hq
    refine mt_cVx (As := [.int x]) (rest := [.int 0, .ref (ad 301)]) S pv_X3_meanSize mw_ml_L_98 (k_X3_meanSize l hlt g z ad lc mc bc N G o d h6 h8 hb6 x) hC hW hS wc_0 rfl rfl rfl hl.1 rfl (Nat.le_of_ble_eq_true rfl) dL_meanSize_4 ⟨(Nat.le_of_ble_eq_true rfl), (Nat.le_of_ble_eq_true rfl)⟩ ⟨(Nat.le_of_ble_eq_true rfl), (Nat.le_of_ble_eq_true rfl)⟩ (congrArg (a₂ := .inl E) xr_d hq) (fun H locs q ce hW hS h1 h2 h3 => ?_)
    rcases hE with rfl | rfl
    · refine mt_catch (name := "java/lang/IndexOutOfBoundsException") S hT hC [] ⟨0, 8, 11, 21⟩ [⟨0, 8, 14, 96⟩] rfl (fun z hz => by cases hz) rfl (by decide) mw_cl_L_21 mw_ca_java_lang_IndexOutOfBoundsException_java_lang_IndexOutOfBoundsException h1 h2 h3 ?_
      refine lv_astore_n (lv' := [(3, .ref q), (0, .ref (ad 0)), (1, .int x), (2, .ref (ad 301))]) hx hb dL_meanSize_11 rfl hl (by decide) rfl (fun ls hl => ?_)
      refine lv_iconst (v := 1) hx hb dL_meanSize_12 (by decide) ?_
      refine mt_riL (ad1 := ad) S hr hk ?_ ?_ hS ?_ ?_ ?_ dL_meanSize_13
      · exact rfl
      · exact hW.to (by rfl)
      · decide
      · exact (Nat.le_of_ble_eq_true rfl)
      · exact (Nat.le_of_ble_eq_true rfl)
    · refine mt_catch (name := "java/lang/ArithmeticException") S hT hC [⟨0, 8, 11, 21⟩] ⟨0, 8, 14, 96⟩ [] rfl (by intro z hz; simp only [List.mem_cons, List.not_mem_nil, or_false] at hz; rcases hz with rfl <;> first | exact ⟨by decide, "java/lang/IndexOutOfBoundsException", mw_cl_L_21, List.mem_of_getElem? (i := 32) rfl⟩) rfl (by decide) mw_cl_L_96 mw_ca_java_lang_ArithmeticException_java_lang_ArithmeticException h1 h2 h3 ?_
      refine lv_astore_n (lv' := [(3, .ref q), (0, .ref (ad 0)), (1, .int x), (2, .ref (ad 301))]) hx hb dL_meanSize_14 rfl hl (by decide) rfl (fun ls hl => ?_)
      refine lv_iconst (v := 2) hx hb dL_meanSize_15 (by decide) ?_
      refine mt_riL (ad1 := ad) S hr hk ?_ ?_ hS ?_ ?_ ?_ dL_meanSize_16
      · exact rfl
      · exact hW.to (by rfl)
      · decide
      · exact (Nat.le_of_ble_eq_true rfl)
      · exact (Nat.le_of_ble_eq_true rfl)
  | inr x0 =>
    refine mt_cV1 (v := .double x0) (As := [.int x]) (rest := [.int 0, .ref (ad 301)]) S pv_X3_meanSize mw_ml_L_98 (k_X3_meanSize l hlt g z ad lc mc bc N G o d h6 h8 hb6 x) hC hW hS wc_0 rfl rfl rfl hl.1 rfl (Nat.le_of_ble_eq_true rfl) dL_meanSize_4 ⟨(Nat.le_of_ble_eq_true rfl), (Nat.le_of_ble_eq_true rfl)⟩ ⟨(Nat.le_of_ble_eq_true rfl), (Nat.le_of_ble_eq_true rfl)⟩ (congrArg (a₂ := .inr x0) xr_d hq) (fun H locs hW hS => ?_)
    refine mt_dast S hC hW hS (k := 301) rfl (vp_in_nI (Nat.zero_lt_one) (by decide)) dL_meanSize_7 (fun H locs hW hS => ?_)
    have hW := hW.to wc_setd
    refine lv_goto (tgt := 17) hx hb dL_meanSize_8 (by decide) ?_
    refine lv_iconst (v := 0) hx hb dL_meanSize_17 (by decide) ?_
    refine mt_riL (ad1 := ad) S hr hk ?_ ?_ hS ?_ ?_ ?_ dL_meanSize_18
    · exact rfl
    · exact hW.to (by rfl)
    · rfl
    · exact (Nat.le_of_ble_eq_true rfl)
    · exact (Nat.le_of_ble_eq_true rfl)
set_option maxRecDepth 100000 in
set_option maxHeartbeats 4000000 in
theorem k_L_addLayer (l : Launch) (hlt : l.stackTraces = false) (g : mt_G) (z : Nat) (ad : Nat → Nat) (lc mc bc : Nat) (N G : Nat → Nat → Int32) (o : Nat → Int64) (d : mt_D) (h6 : lc ≤ 6) (h8 : mc ≤ 8) (hb6 : bc ≤ 6)   : mt_KL l g z yL_addLayer cL_addLayer 3 [(0, 8, 11, 13)] 7 103 5 1368 [.ref (ad 0), .ref (ad 300)] (mt_wc g ad lc mc bc N G o d) ad (scase (c_X3_addLayer lc mc bc N G) (fun E => if E = "java/lang/IllegalStateException" then 1 else 0) (fun _ => 0)) (fun a => scase (c_X3_addLayer lc mc bc N G) (fun _ => mt_wc g a lc mc bc N G o d) (fun x0 => mt_wc g a (lc + 1) mc bc N (mt_g0 G lc) (vp_updL o 0 x0.toInt64) d)) (fun a => ∀ b, b ≠ 100 + lc ∧ b ≠ 110 + lc ∧ b ≠ 120 + lc ∧ b ≠ 130 + lc ∧ b ≠ 140 + lc → a b = ad b) := by
  refine mt_ofWL (by decide +kernel) (Nat.le_of_ble_eq_true rfl) ?_
  intro p e s m args below meth c S hr hk hT hC hW hS ls hl
  have hx := S.1
  have hb := S.2.1
  have hl : lv_has ls 3 [(0, .ref (ad 0)), (1, .ref (ad 300))] := hl
  refine lv_aload_n hx hb dL_addLayer_0 rfl (lv_at hl 1 rfl) ?_
  refine lv_iconst (v := 0) hx hb dL_addLayer_1 (by decide) ?_
  refine lv_aload_n hx hb dL_addLayer_2 rfl (lv_at hl 0 rfl) ?_
  cases hq : c_X3_addLayer lc mc bc N G with
  | inl E =>
    have hE := t_X3_addLayer hq
    refine mt_cVE (As := []) (rest := [.int 0, .ref (ad 300)]) S pv_X3_addLayer mw_ml_L_7 (k_X3_addLayer l hlt g z ad lc mc bc N G o d h6 h8 hb6 ) hC hW hS wc_0 rfl rfl rfl hl.1 rfl (Nat.le_of_ble_eq_true rfl) dL_addLayer_3 ⟨(Nat.le_of_ble_eq_true rfl), (Nat.le_of_ble_eq_true rfl)⟩ ⟨(Nat.le_of_ble_eq_true rfl), (Nat.le_of_ble_eq_true rfl)⟩ (fun H locs a1 v e => by rw [hq] at e; cases e) (fun H locs a1 E9 q ce e hCC hW hS h1 h2 h3 => ?_)
    rw [hq] at e; cases e
    have hW := hW.to (w1 := mt_wc g a1 lc mc bc N G o d) (by rw [hq]; rfl)
    rcases hE with rfl
    · refine mt_catch (name := "java/lang/IllegalStateException") S hT hC [] ⟨0, 8, 11, 13⟩ [] rfl (fun z hz => by cases hz) rfl (by decide) mw_cl_L_13 mw_ca_java_lang_IllegalStateException_java_lang_IllegalStateException h1 h2 h3 ?_
      refine lv_astore_n (lv' := [(2, .ref q), (0, .ref (ad 0)), (1, .ref (ad 300))]) hx hb dL_addLayer_11 rfl hl (by decide) rfl (fun ls hl => ?_)
      refine lv_iconst (v := 1) hx hb dL_addLayer_12 (by decide) ?_
      refine mt_riL (ad1 := a1) S hr hk ?_ ?_ hS ?_ ?_ ?_ dL_addLayer_13
      · exact hCC
      · exact hW.to (by rfl)
      · decide
      · exact (Nat.le_of_ble_eq_true rfl)
      · exact (Nat.le_of_ble_eq_true rfl)
  | inr x0 =>
    refine mt_cVE (As := []) (rest := [.int 0, .ref (ad 300)]) S pv_X3_addLayer mw_ml_L_7 (k_X3_addLayer l hlt g z ad lc mc bc N G o d h6 h8 hb6 ) hC hW hS wc_0 rfl rfl rfl hl.1 rfl (Nat.le_of_ble_eq_true rfl) dL_addLayer_3 ⟨(Nat.le_of_ble_eq_true rfl), (Nat.le_of_ble_eq_true rfl)⟩ ⟨(Nat.le_of_ble_eq_true rfl), (Nat.le_of_ble_eq_true rfl)⟩ (fun H locs a1 v e hCC hW hS => ?_) (fun H locs a1 E9 q ce e => by rw [hq] at e; cases e)
    rw [hq] at e; cases e
    have hW := hW.to (w1 := mt_wc g a1 (lc + 1) mc bc N (mt_g0 G lc) o d) (by rw [hq]; rfl)
    have hA300 : a1 300 = ad 300 := hCC 300 (by omega)
    refine lv_i2l (v := x0.toInt64) hx hb dL_addLayer_6 rfl ?_
    rw [← hA300]
    refine mt_last S hC hW hS (k := 300) rfl (vp_in_nI (Nat.zero_lt_one) (by decide)) dL_addLayer_7 (fun H locs hW hS => ?_)
    have hW := hW.to wc_seto
    refine lv_goto (tgt := 14) hx hb dL_addLayer_8 (by decide) ?_
    refine lv_iconst (v := 0) hx hb dL_addLayer_14 (by decide) ?_
    refine mt_riL (ad1 := a1) S hr hk ?_ ?_ hS ?_ ?_ ?_ dL_addLayer_15
    · exact hCC
    · exact hW.to (by rfl)
    · rfl
    · exact (Nat.le_of_ble_eq_true rfl)
    · exact (Nat.le_of_ble_eq_true rfl)
set_option maxRecDepth 100000 in
set_option maxHeartbeats 4000000 in
theorem k_L_mount (l : Launch) (hlt : l.stackTraces = false) (g : mt_G) (z : Nat) (ad : Nat → Nat) (lc mc bc : Nat) (N G : Nat → Nat → Int32) (o : Nat → Int64) (d : mt_D) (h6 : lc ≤ 6) (h8 : mc ≤ 8) (hb6 : bc ≤ 6) (x : Int32) (y : Int32) (v : Int32)  : mt_KL l g z yL_mount cL_mount 6 [(0, 12, 15, 19), (0, 12, 19, 21), (0, 12, 23, 23), (0, 12, 27, 13)] 7 107 1 6 [.ref (ad 0), .int x, .int y, .int v, .ref (ad 300)] (mt_wc g ad lc mc bc N G o d) ad (scase (c_X3_mount lc mc bc N G x y v) (fun E => if E = "java/lang/IllegalArgumentException" then 1 else if E = "java/lang/IndexOutOfBoundsException" then 2 else if E = "java/lang/UnsupportedOperationException" then 3 else if E = "java/lang/IllegalStateException" then 4 else 0) (fun _ => 0)) (fun a => scase (c_X3_mount lc mc bc N G x y v) (fun _ => mt_wc g a lc mc bc N G o d) (fun x0 => mt_wc g a lc (mc + 1) bc (mt_nm N mc x y v) (c_X3_serveAgain_G lc (mc + 1) bc (mt_nm N mc x y v) G) (vp_updL o 0 x0.toInt64) d)) (fun a => ∀ b, b ≠ 150 + mc → a b = ad b) := by
  refine mt_ofWL (by decide +kernel) (Nat.le_of_ble_eq_true rfl) ?_
  intro p e s m args below meth c S hr hk hT hC hW hS ls hl
  have hx := S.1
  have hb := S.2.1
  have hl : lv_has ls 6 [(0, .ref (ad 0)), (1, .int x), (2, .int y), (3, .int v), (4, .ref (ad 300))] := hl
  refine lv_aload hx hb dL_mount_0 (lv_at hl 4 rfl) ?_
  refine lv_iconst (v := 0) hx hb dL_mount_2 (by decide) ?_
  refine lv_aload_n hx hb dL_mount_3 rfl (lv_at hl 0 rfl) ?_
  refine lv_iload_n hx hb dL_mount_4 rfl (lv_at hl 1 rfl) ?_
  refine lv_iload_n hx hb dL_mount_5 rfl (lv_at hl 2 rfl) ?_
  refine lv_iload_n hx hb dL_mount_6 rfl (lv_at hl 3 rfl) ?_
  cases hq : c_X3_mount lc mc bc N G x y v with
  | inl E =>
    have hE := t_X3_mount hq
    refine mt_cVE (As := [.int x, .int y, .int v]) (rest := [.int 0, .ref (ad 300)]) S pv_X3_mount mw_ml_L_15 (k_X3_mount l hlt g z ad lc mc bc N G o d h6 h8 hb6 x y v) hC hW hS wc_0 rfl rfl rfl hl.1 rfl (Nat.le_of_ble_eq_true rfl) dL_mount_7 ⟨(Nat.le_of_ble_eq_true rfl), (Nat.le_of_ble_eq_true rfl)⟩ ⟨(Nat.le_of_ble_eq_true rfl), (Nat.le_of_ble_eq_true rfl)⟩ (fun H locs a1 v e => by rw [hq] at e; cases e) (fun H locs a1 E9 q ce e hCC hW hS h1 h2 h3 => ?_)
    rw [hq] at e; cases e
    have hW := hW.to (w1 := mt_wc g a1 lc mc bc N G o d) (by rw [hq]; rfl)
    rcases hE with rfl | rfl | rfl | rfl
    · refine mt_catch (name := "java/lang/IllegalArgumentException") S hT hC [] ⟨0, 12, 15, 19⟩ [⟨0, 12, 19, 21⟩, ⟨0, 12, 23, 23⟩, ⟨0, 12, 27, 13⟩] rfl (fun z hz => by cases hz) rfl (by decide) mw_cl_L_19 mw_ca_java_lang_IllegalArgumentException_java_lang_IllegalArgumentException h1 h2 h3 ?_
      refine lv_astore (lv' := [(5, .ref q), (0, .ref (ad 0)), (1, .int x), (2, .int y), (3, .int v), (4, .ref (ad 300))]) hx hb dL_mount_15 hl (by decide) rfl (fun ls hl => ?_)
      refine lv_iconst (v := 1) hx hb dL_mount_17 (by decide) ?_
      refine mt_riL (ad1 := a1) S hr hk ?_ ?_ hS ?_ ?_ ?_ dL_mount_18
      · exact hCC
      · exact hW.to (by rfl)
      · decide
      · exact (Nat.le_of_ble_eq_true rfl)
      · exact (Nat.le_of_ble_eq_true rfl)
    · refine mt_catch (name := "java/lang/IndexOutOfBoundsException") S hT hC [⟨0, 12, 15, 19⟩] ⟨0, 12, 19, 21⟩ [⟨0, 12, 23, 23⟩, ⟨0, 12, 27, 13⟩] rfl (by intro z hz; simp only [List.mem_cons, List.not_mem_nil, or_false] at hz; rcases hz with rfl <;> first | exact ⟨by decide, "java/lang/IllegalArgumentException", mw_cl_L_19, List.mem_of_getElem? (i := 51) rfl⟩) rfl (by decide) mw_cl_L_21 mw_ca_java_lang_IndexOutOfBoundsException_java_lang_IndexOutOfBoundsException h1 h2 h3 ?_
      refine lv_astore (lv' := [(5, .ref q), (0, .ref (ad 0)), (1, .int x), (2, .int y), (3, .int v), (4, .ref (ad 300))]) hx hb dL_mount_19 hl (by decide) rfl (fun ls hl => ?_)
      refine lv_iconst (v := 2) hx hb dL_mount_21 (by decide) ?_
      refine mt_riL (ad1 := a1) S hr hk ?_ ?_ hS ?_ ?_ ?_ dL_mount_22
      · exact hCC
      · exact hW.to (by rfl)
      · decide
      · exact (Nat.le_of_ble_eq_true rfl)
      · exact (Nat.le_of_ble_eq_true rfl)
    · refine mt_catch (name := "java/lang/IllegalStateException") S hT hC [⟨0, 12, 15, 19⟩, ⟨0, 12, 19, 21⟩, ⟨0, 12, 23, 23⟩] ⟨0, 12, 27, 13⟩ [] rfl (by intro z hz; simp only [List.mem_cons, List.not_mem_nil, or_false] at hz; rcases hz with rfl | rfl | rfl <;> first | exact ⟨by decide, "java/lang/IllegalArgumentException", mw_cl_L_19, List.mem_of_getElem? (i := 46) rfl⟩ | exact ⟨by decide, "java/lang/IndexOutOfBoundsException", mw_cl_L_21, List.mem_of_getElem? (i := 47) rfl⟩ | exact ⟨by decide, "java/lang/UnsupportedOperationException", mw_cl_L_23, List.mem_of_getElem? (i := 48) rfl⟩) rfl (by decide) mw_cl_L_13 mw_ca_java_lang_IllegalStateException_java_lang_IllegalStateException h1 h2 h3 ?_
      refine lv_astore (lv' := [(5, .ref q), (0, .ref (ad 0)), (1, .int x), (2, .int y), (3, .int v), (4, .ref (ad 300))]) hx hb dL_mount_27 hl (by decide) rfl (fun ls hl => ?_)
      refine lv_iconst (v := 4) hx hb dL_mount_29 (by decide) ?_
      refine mt_riL (ad1 := a1) S hr hk ?_ ?_ hS ?_ ?_ ?_ dL_mount_30
      · exact hCC
      · exact hW.to (by rfl)
      · decide
      · exact (Nat.le_of_ble_eq_true rfl)
      · exact (Nat.le_of_ble_eq_true rfl)
    · refine mt_catch (name := "java/lang/UnsupportedOperationException") S hT hC [⟨0, 12, 15, 19⟩, ⟨0, 12, 19, 21⟩] ⟨0, 12, 23, 23⟩ [⟨0, 12, 27, 13⟩] rfl (by intro z hz; simp only [List.mem_cons, List.not_mem_nil, or_false] at hz; rcases hz with rfl | rfl <;> first | exact ⟨by decide, "java/lang/IllegalArgumentException", mw_cl_L_19, List.mem_of_getElem? (i := 56) rfl⟩ | exact ⟨by decide, "java/lang/IndexOutOfBoundsException", mw_cl_L_21, List.mem_of_getElem? (i := 58) rfl⟩) rfl (by decide) mw_cl_L_23 mw_ca_java_lang_UnsupportedOperationException_java_lang_UnsupportedOperationException h1 h2 h3 ?_
      refine lv_astore (lv' := [(5, .ref q), (0, .ref (ad 0)), (1, .int x), (2, .int y), (3, .int v), (4, .ref (ad 300))]) hx hb dL_mount_23 hl (by decide) rfl (fun ls hl => ?_)
      refine lv_iconst (v := 3) hx hb dL_mount_25 (by decide) ?_
      refine mt_riL (ad1 := a1) S hr hk ?_ ?_ hS ?_ ?_ ?_ dL_mount_26
      · exact hCC
      · exact hW.to (by rfl)
      · decide
      · exact (Nat.le_of_ble_eq_true rfl)
      · exact (Nat.le_of_ble_eq_true rfl)
  | inr x0 =>
    refine mt_cVE (As := [.int x, .int y, .int v]) (rest := [.int 0, .ref (ad 300)]) S pv_X3_mount mw_ml_L_15 (k_X3_mount l hlt g z ad lc mc bc N G o d h6 h8 hb6 x y v) hC hW hS wc_0 rfl rfl rfl hl.1 rfl (Nat.le_of_ble_eq_true rfl) dL_mount_7 ⟨(Nat.le_of_ble_eq_true rfl), (Nat.le_of_ble_eq_true rfl)⟩ ⟨(Nat.le_of_ble_eq_true rfl), (Nat.le_of_ble_eq_true rfl)⟩ (fun H locs a1 v e hCC hW hS => ?_) (fun H locs a1 E9 q ce e => by rw [hq] at e; cases e)
    rw [hq] at e; cases e
    have hW := hW.to (w1 := mt_wc g a1 lc (mc + 1) bc (mt_nm N mc x y v) (c_X3_serveAgain_G lc (mc + 1) bc (mt_nm N mc x y v) G) o d) (by rw [hq]; rfl)
    have hA300 : a1 300 = ad 300 := hCC 300 (by omega)
    refine lv_i2l (v := x0.toInt64) hx hb dL_mount_10 rfl ?_
    rw [← hA300]
    refine mt_last S hC hW hS (k := 300) rfl (vp_in_nI (Nat.zero_lt_one) (by decide)) dL_mount_11 (fun H locs hW hS => ?_)
    have hW := hW.to wc_seto
    refine lv_goto (tgt := 31) hx hb dL_mount_12 (by decide) ?_
    refine lv_iconst (v := 0) hx hb dL_mount_31 (by decide) ?_
    refine mt_riL (ad1 := a1) S hr hk ?_ ?_ hS ?_ ?_ ?_ dL_mount_32
    · exact hCC
    · exact hW.to (by rfl)
    · rfl
    · exact (Nat.le_of_ble_eq_true rfl)
    · exact (Nat.le_of_ble_eq_true rfl)
set_option maxRecDepth 100000 in
set_option maxHeartbeats 4000000 in
theorem k_L_backUp (l : Launch) (hlt : l.stackTraces = false) (g : mt_G) (z : Nat) (ad : Nat → Nat) (lc mc bc : Nat) (N G : Nat → Nat → Int32) (o : Nat → Int64) (d : mt_D) (h6 : lc ≤ 6) (h8 : mc ≤ 8) (hb6 : bc ≤ 6) (x : Int32) (hx01 : x = 0 ∨ x = 1) (hd : ∀ k, d.2 k = none) : mt_KL l g z yL_backUp cL_backUp 4 [(0, 9, 12, 13)] 7 154 2 2048 [.ref (ad 0), .int x, .ref (ad 300)] (mt_wc g ad lc mc bc N G o d) ad (scase (c_X3_backUp lc mc bc N G x) (fun E => if E = "java/lang/IllegalStateException" then 1 else 0) (fun _ => 0)) (fun a => scase (c_X3_backUp lc mc bc N G x) (fun _ => mt_wc g a lc mc bc N G o d) (fun x0 => mt_wc g a lc mc (bc + 1) (mt_nb N bc x) (mt_gb G bc (fun j => if j < c_bn x then c_X3_sizeNow lc mc bc N G x (nI j) else 0)) (vp_updL o 0 x0.toInt64) d)) (fun a => ∀ b, b ≠ 160 + bc ∧ b ≠ 170 + bc ∧ b ≠ 302 ∧ b ≠ 312 → a b = ad b) := by
  refine mt_ofWL (by decide +kernel) (Nat.le_of_ble_eq_true rfl) ?_
  intro p e s m args below meth c S hr hk hT hC hW hS ls hl
  have hx := S.1
  have hb := S.2.1
  have hl : lv_has ls 4 [(0, .ref (ad 0)), (1, .int x), (2, .ref (ad 300))] := hl
  refine lv_aload_n hx hb dL_backUp_0 rfl (lv_at hl 2 rfl) ?_
  refine lv_iconst (v := 0) hx hb dL_backUp_1 (by decide) ?_
  refine lv_aload_n hx hb dL_backUp_2 rfl (lv_at hl 0 rfl) ?_
  refine lv_iload_n hx hb dL_backUp_3 rfl (lv_at hl 1 rfl) ?_
  cases hq : c_X3_backUp lc mc bc N G x with
  | inl E =>
    have hE := t_X3_backUp hq
    refine mt_cVE (As := [.int x]) (rest := [.int 0, .ref (ad 300)]) S pv_X3_backUp mw_ml_L_82 (k_X3_backUp l hlt g z ad lc mc bc N G o d h6 h8 hb6 x hx01 hd) hC hW hS wc_0 rfl rfl rfl hl.1 rfl (Nat.le_of_ble_eq_true rfl) dL_backUp_4 ⟨(Nat.le_of_ble_eq_true rfl), (Nat.le_of_ble_eq_true rfl)⟩ ⟨(Nat.le_of_ble_eq_true rfl), (Nat.le_of_ble_eq_true rfl)⟩ (fun H locs a1 v e => by rw [hq] at e; cases e) (fun H locs a1 E9 q ce e hCC hW hS h1 h2 h3 => ?_)
    rw [hq] at e; cases e
    have hW := hW.to (w1 := mt_wc g a1 lc mc bc N G o d) (by rw [hq]; rfl)
    rcases hE with rfl
    · refine mt_catch (name := "java/lang/IllegalStateException") S hT hC [] ⟨0, 9, 12, 13⟩ [] rfl (fun z hz => by cases hz) rfl (by decide) mw_cl_L_13 mw_ca_java_lang_IllegalStateException_java_lang_IllegalStateException h1 h2 h3 ?_
      refine lv_astore_n (lv' := [(3, .ref q), (0, .ref (ad 0)), (1, .int x), (2, .ref (ad 300))]) hx hb dL_backUp_12 rfl hl (by decide) rfl (fun ls hl => ?_)
      refine lv_iconst (v := 1) hx hb dL_backUp_13 (by decide) ?_
      refine mt_riL (ad1 := a1) S hr hk ?_ ?_ hS ?_ ?_ ?_ dL_backUp_14
      · exact hCC
      · exact hW.to (by rfl)
      · decide
      · exact (Nat.le_of_ble_eq_true rfl)
      · exact (Nat.le_of_ble_eq_true rfl)
  | inr x0 =>
    refine mt_cVE (As := [.int x]) (rest := [.int 0, .ref (ad 300)]) S pv_X3_backUp mw_ml_L_82 (k_X3_backUp l hlt g z ad lc mc bc N G o d h6 h8 hb6 x hx01 hd) hC hW hS wc_0 rfl rfl rfl hl.1 rfl (Nat.le_of_ble_eq_true rfl) dL_backUp_4 ⟨(Nat.le_of_ble_eq_true rfl), (Nat.le_of_ble_eq_true rfl)⟩ ⟨(Nat.le_of_ble_eq_true rfl), (Nat.le_of_ble_eq_true rfl)⟩ (fun H locs a1 v e hCC hW hS => ?_) (fun H locs a1 E9 q ce e => by rw [hq] at e; cases e)
    rw [hq] at e; cases e
    have hW := hW.to (w1 := mt_wc g a1 lc mc (bc + 1) (mt_nb N bc x) (mt_gb G bc (fun j => if j < c_bn x then c_X3_sizeNow lc mc bc N G x (nI j) else 0)) o d) (by rw [hq]; rfl)
    have hA300 : a1 300 = ad 300 := hCC 300 (by omega)
    refine lv_i2l (v := x0.toInt64) hx hb dL_backUp_7 rfl ?_
    rw [← hA300]
    refine mt_last S hC hW hS (k := 300) rfl (vp_in_nI (Nat.zero_lt_one) (by decide)) dL_backUp_8 (fun H locs hW hS => ?_)
    have hW := hW.to wc_seto
    refine lv_goto (tgt := 15) hx hb dL_backUp_9 (by decide) ?_
    refine lv_iconst (v := 0) hx hb dL_backUp_15 (by decide) ?_
    refine mt_riL (ad1 := a1) S hr hk ?_ ?_ hS ?_ ?_ ?_ dL_backUp_16
    · exact hCC
    · exact hW.to (by rfl)
    · rfl
    · exact (Nat.le_of_ble_eq_true rfl)
    · exact (Nat.le_of_ble_eq_true rfl)

set_option maxRecDepth 100000 in
set_option maxHeartbeats 4000000 in
theorem lc_0 : mt_LC 168 := by
  intro l hlt p e s m args below meth c w0 S z g hC b L xs hX hbl hbA hL Q ad lc mc bc N G o d J i hi H locs cells slots ls hcr hsl hW hS hl kk
  have hx := S.1
  have hb := S.2.1
  have hl : lv_has ls 9 [(0, .ref b), (1, .ref (ad 0)), (2, .ref (ad 200)), (3, .ref (ad 300)), (4, .ref (ad 301)), (5, .int (nI i))] := hl
  refine lv_aload_n hx hb dL_law_168 rfl (lv_at hl 1 rfl) ?_
  refine lv_aload_n hx hb dL_law_169 rfl (lv_at hl 3 rfl) ?_
  refine mt_cL (As := [.ref (ad 0), .ref (ad 300)]) (rest := []) S pL_addLayer mw_ml_L_106 (k_L_addLayer l hlt g z ad lc mc bc N G o d J.1 J.2.1 J.2.2.1 ) hC hW hS rfl hl.1 rfl (Nat.le_of_ble_eq_true rfl) dL_law_170 ⟨(Nat.le_of_ble_eq_true rfl), (Nat.le_of_ble_eq_true rfl)⟩ ⟨by show _ ≤ 603072; omega, by show _ ≤ 7219306; omega⟩ (fun H locs a1 hcc hW hS => ?_)
  have ea0 : a1 0 = ad 0 := hcc 0 (by have := J.1; have := J.2.1; have := J.2.2.1; omega)
  have ea200 : a1 200 = ad 200 := hcc 200 (by have := J.1; have := J.2.1; have := J.2.2.1; omega)
  have ea300 : a1 300 = ad 300 := hcc 300 (by have := J.1; have := J.2.1; have := J.2.2.1; omega)
  have ea301 : a1 301 = ad 301 := hcc 301 (by have := J.1; have := J.2.1; have := J.2.2.1; omega)
  rw [← ea0, ← ea200, ← ea300, ← ea301] at hl
  refine lv_istore (lv' := [(6, .int (scase (c_X3_addLayer lc mc bc N G) (fun E => if E = "java/lang/IllegalStateException" then 1 else 0) (fun _ => 0))), (0, .ref b), (1, .ref (a1 0)), (2, .ref (a1 200)), (3, .ref (a1 300)), (4, .ref (a1 301)), (5, .int (nI i))]) hx hb dL_law_173 hl (by decide) rfl (fun ls hl => ?_)
  have hl : lv_has ls 9 [(0, .ref b), (1, .ref (a1 0)), (2, .ref (a1 200)), (3, .ref (a1 300)), (4, .ref (a1 301)), (5, .int (nI i))] := lv_sub hl [1, 2, 3, 4, 5, 6] rfl
  rcases hq : c_X3_addLayer lc mc bc N G with E | x0
  · have hW := hW.to (w1 := mt_wc g a1 lc mc bc N G o d) (by rw [hq]; rfl)
    obtain ⟨hM, hJ⟩ := sj_addLayer_l J  hq
    refine lv_aload_n hx hb dL_law_175 rfl (lv_at hl 2 rfl) ?_
    refine mt_cV1 (As := []) (rest := []) S pv_X4_addLayer mw_ml_L_111 (k_X4_addLayer l hlt g z a1 lc mc bc N G o d hJ.1 hJ.2.1 hJ.2.2.1 ) hC hW hS wc_200 rfl rfl rfl hl.1 rfl (Nat.le_of_ble_eq_true rfl) dL_law_176 ⟨(Nat.le_of_ble_eq_true rfl), (Nat.le_of_ble_eq_true rfl)⟩ ⟨by show _ ≤ 603072; omega, by show _ ≤ 7219306; omega⟩ rfl (fun H locs hW hS => ?_)
    refine lv_istore (lv' := [(7, .int (c_X4_addLayer lc mc bc N G)), (0, .ref b), (1, .ref (a1 0)), (2, .ref (a1 200)), (3, .ref (a1 300)), (4, .ref (a1 301)), (5, .int (nI i))]) hx hb dL_law_179 hl (by decide) rfl (fun ls hl => ?_)
    have hl : lv_has ls 9 [(0, .ref b), (1, .ref (a1 0)), (2, .ref (a1 200)), (3, .ref (a1 300)), (4, .ref (a1 301)), (5, .int (nI i))] := lv_sub hl [1, 2, 3, 4, 5, 6] rfl
    refine lv_goto (tgt := 1045) hx hb dL_law_181 (by decide) ?_
    refine W.widen (k := cells + 8) (n := slots + 2100) (by omega) (by omega) ?_
    exact kk H locs ls a1 lc mc bc (c_X4_addLayer_N lc mc bc N G) G o d hJ hW hS hl
  · have hW := hW.to (w1 := mt_wc g a1 (lc + 1) mc bc N (mt_g0 G lc) (vp_updL o 0 x0.toInt64) d) (by rw [hq]; rfl)
    obtain ⟨hM, hJ⟩ := sj_addLayer_r J  hq
    refine lv_aload_n hx hb dL_law_175 rfl (lv_at hl 2 rfl) ?_
    refine mt_cV1 (As := []) (rest := []) S pv_X4_addLayer mw_ml_L_111 (k_X4_addLayer l hlt g z a1 (lc + 1) mc bc N (mt_g0 G lc) (vp_updL o 0 x0.toInt64) d hJ.1 hJ.2.1 hJ.2.2.1 ) hC hW hS wc_200 rfl rfl rfl hl.1 rfl (Nat.le_of_ble_eq_true rfl) dL_law_176 ⟨(Nat.le_of_ble_eq_true rfl), (Nat.le_of_ble_eq_true rfl)⟩ ⟨by show _ ≤ 603072; omega, by show _ ≤ 7219306; omega⟩ rfl (fun H locs hW hS => ?_)
    refine lv_istore (lv' := [(7, .int (c_X4_addLayer (lc + 1) mc bc N (mt_g0 G lc))), (0, .ref b), (1, .ref (a1 0)), (2, .ref (a1 200)), (3, .ref (a1 300)), (4, .ref (a1 301)), (5, .int (nI i))]) hx hb dL_law_179 hl (by decide) rfl (fun ls hl => ?_)
    have hl : lv_has ls 9 [(0, .ref b), (1, .ref (a1 0)), (2, .ref (a1 200)), (3, .ref (a1 300)), (4, .ref (a1 301)), (5, .int (nI i))] := lv_sub hl [1, 2, 3, 4, 5, 6] rfl
    refine lv_goto (tgt := 1045) hx hb dL_law_181 (by decide) ?_
    refine W.widen (k := cells + 8) (n := slots + 2100) (by omega) (by omega) ?_
    exact kk H locs ls a1 (lc + 1) mc bc (c_X4_addLayer_N (lc + 1) mc bc N (mt_g0 G lc)) (mt_g0 G lc) (vp_updL o 0 x0.toInt64) d hJ hW hS hl
set_option maxRecDepth 100000 in
set_option maxHeartbeats 4000000 in
theorem lc_1 : mt_LC 184 := by
  intro l hlt p e s m args below meth c w0 S z g hC b L xs hX hbl hbA hL Q ad lc mc bc N G o d J i hi H locs cells slots ls hcr hsl hW hS hl kk
  have hx := S.1
  have hb := S.2.1
  have hl : lv_has ls 9 [(0, .ref b), (1, .ref (ad 0)), (2, .ref (ad 200)), (3, .ref (ad 300)), (4, .ref (ad 301)), (5, .int (nI i))] := hl
  refine lv_aload_n hx hb dL_law_184 rfl (lv_at hl 1 rfl) ?_
  refine lw_arg (kn := 1) hx hb hX hbl hbA hS hL (by omega) (lv_at hl 0 rfl) (lv_at hl 5 rfl) dL_law_185 dL_law_186 dL_law_188 dL_law_189 dL_law_190 (by decide) ?_
  refine lw_arg (kn := 2) hx hb hX hbl hbA hS hL (by omega) (lv_at hl 0 rfl) (lv_at hl 5 rfl) dL_law_191 dL_law_192 dL_law_194 dL_law_195 dL_law_196 (by decide) ?_
  refine lw_arg (kn := 3) hx hb hX hbl hbA hS hL (by omega) (lv_at hl 0 rfl) (lv_at hl 5 rfl) dL_law_197 dL_law_198 dL_law_200 dL_law_201 dL_law_202 (by decide) ?_
  refine lv_aload_n hx hb dL_law_203 rfl (lv_at hl 3 rfl) ?_
  refine mt_cL (As := [.ref (ad 0), .int (xs (i + 1)), .int (xs (i + 2)), .int (xs (i + 3)), .ref (ad 300)]) (rest := []) S pL_mount mw_ml_L_112 (k_L_mount l hlt g z ad lc mc bc N G o d J.1 J.2.1 J.2.2.1 (xs (i + 1)) (xs (i + 2)) (xs (i + 3))) hC hW hS rfl hl.1 rfl (Nat.le_of_ble_eq_true rfl) dL_law_204 ⟨(Nat.le_of_ble_eq_true rfl), (Nat.le_of_ble_eq_true rfl)⟩ ⟨by show _ ≤ 603072; omega, by show _ ≤ 7219306; omega⟩ (fun H locs a1 hcc hW hS => ?_)
  have ea0 : a1 0 = ad 0 := hcc 0 (by have := J.1; have := J.2.1; have := J.2.2.1; omega)
  have ea200 : a1 200 = ad 200 := hcc 200 (by have := J.1; have := J.2.1; have := J.2.2.1; omega)
  have ea300 : a1 300 = ad 300 := hcc 300 (by have := J.1; have := J.2.1; have := J.2.2.1; omega)
  have ea301 : a1 301 = ad 301 := hcc 301 (by have := J.1; have := J.2.1; have := J.2.2.1; omega)
  rw [← ea0, ← ea200, ← ea300, ← ea301] at hl
  refine lv_istore (lv' := [(6, .int (scase (c_X3_mount lc mc bc N G (xs (i + 1)) (xs (i + 2)) (xs (i + 3))) (fun E => if E = "java/lang/IllegalArgumentException" then 1 else if E = "java/lang/IndexOutOfBoundsException" then 2 else if E = "java/lang/UnsupportedOperationException" then 3 else if E = "java/lang/IllegalStateException" then 4 else 0) (fun _ => 0))), (0, .ref b), (1, .ref (a1 0)), (2, .ref (a1 200)), (3, .ref (a1 300)), (4, .ref (a1 301)), (5, .int (nI i))]) hx hb dL_law_207 hl (by decide) rfl (fun ls hl => ?_)
  have hl : lv_has ls 9 [(0, .ref b), (1, .ref (a1 0)), (2, .ref (a1 200)), (3, .ref (a1 300)), (4, .ref (a1 301)), (5, .int (nI i))] := lv_sub hl [1, 2, 3, 4, 5, 6] rfl
  rcases hq : c_X3_mount lc mc bc N G (xs (i + 1)) (xs (i + 2)) (xs (i + 3)) with E | x0
  · have hW := hW.to (w1 := mt_wc g a1 lc mc bc N G o d) (by rw [hq]; rfl)
    obtain ⟨hM, hJ⟩ := sj_mount_l J (xs (i + 1)) (xs (i + 2)) (xs (i + 3)) hq
    refine lv_aload_n hx hb dL_law_209 rfl (lv_at hl 2 rfl) ?_
    refine lw_arg (kn := 1) hx hb hX hbl hbA hS hL (by omega) (lv_at hl 0 rfl) (lv_at hl 5 rfl) dL_law_210 dL_law_211 dL_law_213 dL_law_214 dL_law_215 (by decide) ?_
    refine lw_arg (kn := 2) hx hb hX hbl hbA hS hL (by omega) (lv_at hl 0 rfl) (lv_at hl 5 rfl) dL_law_216 dL_law_217 dL_law_219 dL_law_220 dL_law_221 (by decide) ?_
    refine lw_arg (kn := 3) hx hb hX hbl hbA hS hL (by omega) (lv_at hl 0 rfl) (lv_at hl 5 rfl) dL_law_222 dL_law_223 dL_law_225 dL_law_226 dL_law_227 (by decide) ?_
    refine mt_cV1 (As := [.int (xs (i + 1)), .int (xs (i + 2)), .int (xs (i + 3))]) (rest := []) S pv_X4_mount mw_ml_L_115 (k_X4_mount l hlt g z a1 lc mc bc N G o d hJ.1 hJ.2.1 hJ.2.2.1 (xs (i + 1)) (xs (i + 2)) (xs (i + 3)) hM) hC hW hS wc_200 rfl rfl rfl hl.1 rfl (Nat.le_of_ble_eq_true rfl) dL_law_228 ⟨(Nat.le_of_ble_eq_true rfl), (Nat.le_of_ble_eq_true rfl)⟩ ⟨by show _ ≤ 603072; omega, by show _ ≤ 7219306; omega⟩ rfl (fun H locs hW hS => ?_)
    refine lv_istore (lv' := [(7, .int (c_X4_mount lc mc bc N G (xs (i + 1)) (xs (i + 2)) (xs (i + 3)))), (0, .ref b), (1, .ref (a1 0)), (2, .ref (a1 200)), (3, .ref (a1 300)), (4, .ref (a1 301)), (5, .int (nI i))]) hx hb dL_law_231 hl (by decide) rfl (fun ls hl => ?_)
    have hl : lv_has ls 9 [(0, .ref b), (1, .ref (a1 0)), (2, .ref (a1 200)), (3, .ref (a1 300)), (4, .ref (a1 301)), (5, .int (nI i))] := lv_sub hl [1, 2, 3, 4, 5, 6] rfl
    refine lv_goto (tgt := 1045) hx hb dL_law_233 (by decide) ?_
    refine W.widen (k := cells + 8) (n := slots + 2100) (by omega) (by omega) ?_
    exact kk H locs ls a1 lc mc bc (c_X4_mount_N lc mc bc N G (xs (i + 1)) (xs (i + 2)) (xs (i + 3))) (c_X4_mount_G lc mc bc N G (xs (i + 1)) (xs (i + 2)) (xs (i + 3))) o d hJ hW hS hl
  · have hW := hW.to (w1 := mt_wc g a1 lc (mc + 1) bc (mt_nm N mc (xs (i + 1)) (xs (i + 2)) (xs (i + 3))) (c_X3_serveAgain_G lc (mc + 1) bc (mt_nm N mc (xs (i + 1)) (xs (i + 2)) (xs (i + 3))) G) (vp_updL o 0 x0.toInt64) d) (by rw [hq]; rfl)
    obtain ⟨hM, hJ⟩ := sj_mount_r J (xs (i + 1)) (xs (i + 2)) (xs (i + 3)) hq
    refine lv_aload_n hx hb dL_law_209 rfl (lv_at hl 2 rfl) ?_
    refine lw_arg (kn := 1) hx hb hX hbl hbA hS hL (by omega) (lv_at hl 0 rfl) (lv_at hl 5 rfl) dL_law_210 dL_law_211 dL_law_213 dL_law_214 dL_law_215 (by decide) ?_
    refine lw_arg (kn := 2) hx hb hX hbl hbA hS hL (by omega) (lv_at hl 0 rfl) (lv_at hl 5 rfl) dL_law_216 dL_law_217 dL_law_219 dL_law_220 dL_law_221 (by decide) ?_
    refine lw_arg (kn := 3) hx hb hX hbl hbA hS hL (by omega) (lv_at hl 0 rfl) (lv_at hl 5 rfl) dL_law_222 dL_law_223 dL_law_225 dL_law_226 dL_law_227 (by decide) ?_
    refine mt_cV1 (As := [.int (xs (i + 1)), .int (xs (i + 2)), .int (xs (i + 3))]) (rest := []) S pv_X4_mount mw_ml_L_115 (k_X4_mount l hlt g z a1 lc (mc + 1) bc (mt_nm N mc (xs (i + 1)) (xs (i + 2)) (xs (i + 3))) (c_X3_serveAgain_G lc (mc + 1) bc (mt_nm N mc (xs (i + 1)) (xs (i + 2)) (xs (i + 3))) G) (vp_updL o 0 x0.toInt64) d hJ.1 hJ.2.1 hJ.2.2.1 (xs (i + 1)) (xs (i + 2)) (xs (i + 3)) hM) hC hW hS wc_200 rfl rfl rfl hl.1 rfl (Nat.le_of_ble_eq_true rfl) dL_law_228 ⟨(Nat.le_of_ble_eq_true rfl), (Nat.le_of_ble_eq_true rfl)⟩ ⟨by show _ ≤ 603072; omega, by show _ ≤ 7219306; omega⟩ rfl (fun H locs hW hS => ?_)
    refine lv_istore (lv' := [(7, .int (c_X4_mount lc (mc + 1) bc (mt_nm N mc (xs (i + 1)) (xs (i + 2)) (xs (i + 3))) (c_X3_serveAgain_G lc (mc + 1) bc (mt_nm N mc (xs (i + 1)) (xs (i + 2)) (xs (i + 3))) G) (xs (i + 1)) (xs (i + 2)) (xs (i + 3)))), (0, .ref b), (1, .ref (a1 0)), (2, .ref (a1 200)), (3, .ref (a1 300)), (4, .ref (a1 301)), (5, .int (nI i))]) hx hb dL_law_231 hl (by decide) rfl (fun ls hl => ?_)
    have hl : lv_has ls 9 [(0, .ref b), (1, .ref (a1 0)), (2, .ref (a1 200)), (3, .ref (a1 300)), (4, .ref (a1 301)), (5, .int (nI i))] := lv_sub hl [1, 2, 3, 4, 5, 6] rfl
    refine lv_goto (tgt := 1045) hx hb dL_law_233 (by decide) ?_
    refine W.widen (k := cells + 8) (n := slots + 2100) (by omega) (by omega) ?_
    exact kk H locs ls a1 lc (mc + 1) bc (c_X4_mount_N lc (mc + 1) bc (mt_nm N mc (xs (i + 1)) (xs (i + 2)) (xs (i + 3))) (c_X3_serveAgain_G lc (mc + 1) bc (mt_nm N mc (xs (i + 1)) (xs (i + 2)) (xs (i + 3))) G) (xs (i + 1)) (xs (i + 2)) (xs (i + 3))) (c_X4_mount_G lc (mc + 1) bc (mt_nm N mc (xs (i + 1)) (xs (i + 2)) (xs (i + 3))) (c_X3_serveAgain_G lc (mc + 1) bc (mt_nm N mc (xs (i + 1)) (xs (i + 2)) (xs (i + 3))) G) (xs (i + 1)) (xs (i + 2)) (xs (i + 3))) (vp_updL o 0 x0.toInt64) d hJ hW hS hl
set_option maxRecDepth 100000 in
set_option maxHeartbeats 4000000 in
theorem lc_2 : mt_LC 236 := by
  intro l hlt p e s m args below meth c w0 S z g hC b L xs hX hbl hbA hL Q ad lc mc bc N G o d J i hi H locs cells slots ls hcr hsl hW hS hl kk
  have hx := S.1
  have hb := S.2.1
  have hl : lv_has ls 9 [(0, .ref b), (1, .ref (ad 0)), (2, .ref (ad 200)), (3, .ref (ad 300)), (4, .ref (ad 301)), (5, .int (nI i))] := hl
  refine lv_aload_n hx hb dL_law_236 rfl (lv_at hl 1 rfl) ?_
  refine lw_arg (kn := 1) hx hb hX hbl hbA hS hL (by omega) (lv_at hl 0 rfl) (lv_at hl 5 rfl) dL_law_237 dL_law_238 dL_law_240 dL_law_241 dL_law_242 (by decide) ?_
  refine lv_aload_n hx hb dL_law_243 rfl (lv_at hl 3 rfl) ?_
  refine mt_cL (As := [.ref (ad 0), .int (xs (i + 1)), .ref (ad 300)]) (rest := []) S pL_unmount mw_ml_L_116 (k_L_unmount l hlt g z ad lc mc bc N G o d J.1 J.2.1 J.2.2.1 (xs (i + 1))) hC hW hS rfl hl.1 rfl (Nat.le_of_ble_eq_true rfl) dL_law_244 ⟨(Nat.le_of_ble_eq_true rfl), (Nat.le_of_ble_eq_true rfl)⟩ ⟨by show _ ≤ 603072; omega, by show _ ≤ 7219306; omega⟩ (fun H locs a1 hcc hW hS => ?_)
  rw [show a1 = ad from hcc] at hW
  have hW := hW.to wc_sl
  refine lv_istore (lv' := [(6, .int (scase (c_X3_unmount lc mc bc N G (xs (i + 1))) (fun E => if E = "java/lang/IndexOutOfBoundsException" then 1 else 0) (fun _ => 0))), (0, .ref b), (1, .ref (ad 0)), (2, .ref (ad 200)), (3, .ref (ad 300)), (4, .ref (ad 301)), (5, .int (nI i))]) hx hb dL_law_247 hl (by decide) rfl (fun ls hl => ?_)
  have hl : lv_has ls 9 [(0, .ref b), (1, .ref (ad 0)), (2, .ref (ad 200)), (3, .ref (ad 300)), (4, .ref (ad 301)), (5, .int (nI i))] := lv_sub hl [1, 2, 3, 4, 5, 6] rfl
  obtain ⟨hM, hJ⟩ := sj_unmount J (xs (i + 1))
  refine lv_aload_n hx hb dL_law_249 rfl (lv_at hl 2 rfl) ?_
  refine lw_arg (kn := 1) hx hb hX hbl hbA hS hL (by omega) (lv_at hl 0 rfl) (lv_at hl 5 rfl) dL_law_250 dL_law_251 dL_law_253 dL_law_254 dL_law_255 (by decide) ?_
  refine mt_cV1 (As := [.int (xs (i + 1))]) (rest := []) S pv_X4_unmount mw_ml_L_119 (k_X4_unmount l hlt g z ad lc mc bc (c_X3_unmount_N lc mc bc N G (xs (i + 1))) (c_X3_unmount_G lc mc bc N G (xs (i + 1))) (scase (c_X3_unmount lc mc bc N G (xs (i + 1))) (fun _ => o) (fun x0 => vp_updL o 0 x0.toInt64)) d hJ.1 hJ.2.1 hJ.2.2.1 (xs (i + 1)) hM) hC hW hS wc_200 rfl rfl rfl hl.1 rfl (Nat.le_of_ble_eq_true rfl) dL_law_256 ⟨(Nat.le_of_ble_eq_true rfl), (Nat.le_of_ble_eq_true rfl)⟩ ⟨by show _ ≤ 603072; omega, by show _ ≤ 7219306; omega⟩ rfl (fun H locs hW hS => ?_)
  refine lv_istore (lv' := [(7, .int (c_X4_unmount lc mc bc (c_X3_unmount_N lc mc bc N G (xs (i + 1))) (c_X3_unmount_G lc mc bc N G (xs (i + 1))) (xs (i + 1)))), (0, .ref b), (1, .ref (ad 0)), (2, .ref (ad 200)), (3, .ref (ad 300)), (4, .ref (ad 301)), (5, .int (nI i))]) hx hb dL_law_259 hl (by decide) rfl (fun ls hl => ?_)
  have hl : lv_has ls 9 [(0, .ref b), (1, .ref (ad 0)), (2, .ref (ad 200)), (3, .ref (ad 300)), (4, .ref (ad 301)), (5, .int (nI i))] := lv_sub hl [1, 2, 3, 4, 5, 6] rfl
  refine lv_goto (tgt := 1045) hx hb dL_law_261 (by decide) ?_
  refine W.widen (k := cells + 8) (n := slots + 2100) (by omega) (by omega) ?_
  exact kk H locs ls ad lc mc bc (c_X4_unmount_N lc mc bc (c_X3_unmount_N lc mc bc N G (xs (i + 1))) (c_X3_unmount_G lc mc bc N G (xs (i + 1))) (xs (i + 1))) (c_X4_unmount_G lc mc bc (c_X3_unmount_N lc mc bc N G (xs (i + 1))) (c_X3_unmount_G lc mc bc N G (xs (i + 1))) (xs (i + 1))) (scase (c_X3_unmount lc mc bc N G (xs (i + 1))) (fun _ => o) (fun x0 => vp_updL o 0 x0.toInt64)) d hJ hW hS hl
set_option maxRecDepth 100000 in
set_option maxHeartbeats 4000000 in
theorem lc_3 : mt_LC 264 := by
  intro l hlt p e s m args below meth c w0 S z g hC b L xs hX hbl hbA hL Q ad lc mc bc N G o d J i hi H locs cells slots ls hcr hsl hW hS hl kk
  have hx := S.1
  have hb := S.2.1
  have hl : lv_has ls 9 [(0, .ref b), (1, .ref (ad 0)), (2, .ref (ad 200)), (3, .ref (ad 300)), (4, .ref (ad 301)), (5, .int (nI i))] := hl
  refine lv_aload_n hx hb dL_law_264 rfl (lv_at hl 1 rfl) ?_
  refine lw_arg (kn := 1) hx hb hX hbl hbA hS hL (by omega) (lv_at hl 0 rfl) (lv_at hl 5 rfl) dL_law_265 dL_law_266 dL_law_268 dL_law_269 dL_law_270 (by decide) ?_
  refine lw_arg (kn := 2) hx hb hX hbl hbA hS hL (by omega) (lv_at hl 0 rfl) (lv_at hl 5 rfl) dL_law_271 dL_law_272 dL_law_274 dL_law_275 dL_law_276 (by decide) ?_
  refine lv_aload_n hx hb dL_law_277 rfl (lv_at hl 3 rfl) ?_
  refine mt_cL (As := [.ref (ad 0), .int (xs (i + 1)), .int (xs (i + 2)), .ref (ad 300)]) (rest := []) S pL_move mw_ml_L_120 (k_L_move l hlt g z ad lc mc bc N G o d J.1 J.2.1 J.2.2.1 (xs (i + 1)) (xs (i + 2))) hC hW hS rfl hl.1 rfl (Nat.le_of_ble_eq_true rfl) dL_law_278 ⟨(Nat.le_of_ble_eq_true rfl), (Nat.le_of_ble_eq_true rfl)⟩ ⟨by show _ ≤ 603072; omega, by show _ ≤ 7219306; omega⟩ (fun H locs a1 hcc hW hS => ?_)
  rw [show a1 = ad from hcc] at hW
  have hW := hW.to wc_sl
  refine lv_istore (lv' := [(6, .int (scase (c_X3_move lc mc bc N G (xs (i + 1)) (xs (i + 2))) (fun E => if E = "java/lang/IndexOutOfBoundsException" then 1 else if E = "java/lang/IllegalArgumentException" then 2 else 0) (fun _ => 0))), (0, .ref b), (1, .ref (ad 0)), (2, .ref (ad 200)), (3, .ref (ad 300)), (4, .ref (ad 301)), (5, .int (nI i))]) hx hb dL_law_281 hl (by decide) rfl (fun ls hl => ?_)
  have hl : lv_has ls 9 [(0, .ref b), (1, .ref (ad 0)), (2, .ref (ad 200)), (3, .ref (ad 300)), (4, .ref (ad 301)), (5, .int (nI i))] := lv_sub hl [1, 2, 3, 4, 5, 6] rfl
  obtain ⟨hM, hJ⟩ := sj_move J (xs (i + 1)) (xs (i + 2))
  refine lv_aload_n hx hb dL_law_283 rfl (lv_at hl 2 rfl) ?_
  refine lw_arg (kn := 1) hx hb hX hbl hbA hS hL (by omega) (lv_at hl 0 rfl) (lv_at hl 5 rfl) dL_law_284 dL_law_285 dL_law_287 dL_law_288 dL_law_289 (by decide) ?_
  refine lw_arg (kn := 2) hx hb hX hbl hbA hS hL (by omega) (lv_at hl 0 rfl) (lv_at hl 5 rfl) dL_law_290 dL_law_291 dL_law_293 dL_law_294 dL_law_295 (by decide) ?_
  refine mt_cV1 (As := [.int (xs (i + 1)), .int (xs (i + 2))]) (rest := []) S pv_X4_move mw_ml_L_123 (k_X4_move l hlt g z ad lc mc bc (c_X3_move_N lc mc bc N G (xs (i + 1)) (xs (i + 2))) (c_X3_move_G lc mc bc N G (xs (i + 1)) (xs (i + 2))) (scase (c_X3_move lc mc bc N G (xs (i + 1)) (xs (i + 2))) (fun _ => o) (fun x0 => vp_updL o 0 x0.toInt64)) d hJ.1 hJ.2.1 hJ.2.2.1 (xs (i + 1)) (xs (i + 2)) hM) hC hW hS wc_200 rfl rfl rfl hl.1 rfl (Nat.le_of_ble_eq_true rfl) dL_law_296 ⟨(Nat.le_of_ble_eq_true rfl), (Nat.le_of_ble_eq_true rfl)⟩ ⟨by show _ ≤ 603072; omega, by show _ ≤ 7219306; omega⟩ rfl (fun H locs hW hS => ?_)
  refine lv_istore (lv' := [(7, .int (c_X4_move lc mc bc (c_X3_move_N lc mc bc N G (xs (i + 1)) (xs (i + 2))) (c_X3_move_G lc mc bc N G (xs (i + 1)) (xs (i + 2))) (xs (i + 1)) (xs (i + 2)))), (0, .ref b), (1, .ref (ad 0)), (2, .ref (ad 200)), (3, .ref (ad 300)), (4, .ref (ad 301)), (5, .int (nI i))]) hx hb dL_law_299 hl (by decide) rfl (fun ls hl => ?_)
  have hl : lv_has ls 9 [(0, .ref b), (1, .ref (ad 0)), (2, .ref (ad 200)), (3, .ref (ad 300)), (4, .ref (ad 301)), (5, .int (nI i))] := lv_sub hl [1, 2, 3, 4, 5, 6] rfl
  refine lv_goto (tgt := 1045) hx hb dL_law_301 (by decide) ?_
  refine W.widen (k := cells + 8) (n := slots + 2100) (by omega) (by omega) ?_
  exact kk H locs ls ad lc mc bc (c_X4_move_N lc mc bc (c_X3_move_N lc mc bc N G (xs (i + 1)) (xs (i + 2))) (c_X3_move_G lc mc bc N G (xs (i + 1)) (xs (i + 2))) (xs (i + 1)) (xs (i + 2))) (c_X4_move_G lc mc bc (c_X3_move_N lc mc bc N G (xs (i + 1)) (xs (i + 2))) (c_X3_move_G lc mc bc N G (xs (i + 1)) (xs (i + 2))) (xs (i + 1)) (xs (i + 2))) (scase (c_X3_move lc mc bc N G (xs (i + 1)) (xs (i + 2))) (fun _ => o) (fun x0 => vp_updL o 0 x0.toInt64)) d hJ hW hS hl
set_option maxRecDepth 100000 in
set_option maxHeartbeats 4000000 in
theorem lc_4 : mt_LC 304 := by
  intro l hlt p e s m args below meth c w0 S z g hC b L xs hX hbl hbA hL Q ad lc mc bc N G o d J i hi H locs cells slots ls hcr hsl hW hS hl kk
  have hx := S.1
  have hb := S.2.1
  have hl : lv_has ls 9 [(0, .ref b), (1, .ref (ad 0)), (2, .ref (ad 200)), (3, .ref (ad 300)), (4, .ref (ad 301)), (5, .int (nI i))] := hl
  refine lv_aload_n hx hb dL_law_304 rfl (lv_at hl 1 rfl) ?_
  refine lw_arg (kn := 1) hx hb hX hbl hbA hS hL (by omega) (lv_at hl 0 rfl) (lv_at hl 5 rfl) dL_law_305 dL_law_306 dL_law_308 dL_law_309 dL_law_310 (by decide) ?_
  refine lw_arg (kn := 2) hx hb hX hbl hbA hS hL (by omega) (lv_at hl 0 rfl) (lv_at hl 5 rfl) dL_law_311 dL_law_312 dL_law_314 dL_law_315 dL_law_316 (by decide) ?_
  refine lw_bool hx hb dL_law_317 dL_law_320 dL_law_321 dL_law_324 ?_
  refine lv_aload_n hx hb dL_law_325 rfl (lv_at hl 3 rfl) ?_
  refine mt_cL (As := [.ref (ad 0), .int (xs (i + 1)), .int (if xs (i + 2) = 0 then 0 else 1), .ref (ad 300)]) (rest := []) S pL_setCrossing mw_ml_L_124 (k_L_setCrossing l hlt g z ad lc mc bc N G o d J.1 J.2.1 J.2.2.1 (xs (i + 1)) (if xs (i + 2) = 0 then 0 else 1) b01 J.2.2.2.2.1) hC hW hS rfl hl.1 rfl (Nat.le_of_ble_eq_true rfl) dL_law_326 ⟨(Nat.le_of_ble_eq_true rfl), (Nat.le_of_ble_eq_true rfl)⟩ ⟨by show _ ≤ 603072; omega, by show _ ≤ 7219306; omega⟩ (fun H locs a1 hcc hW hS => ?_)
  rw [show a1 = ad from hcc] at hW
  have hW := hW.to wc_sl
  refine lv_istore (lv' := [(6, .int (scase (c_X3_setCrossing lc mc bc N G (xs (i + 1)) (if xs (i + 2) = 0 then 0 else 1)) (fun E => if E = "java/lang/IndexOutOfBoundsException" then 1 else 0) (fun _ => 0))), (0, .ref b), (1, .ref (ad 0)), (2, .ref (ad 200)), (3, .ref (ad 300)), (4, .ref (ad 301)), (5, .int (nI i))]) hx hb dL_law_329 hl (by decide) rfl (fun ls hl => ?_)
  have hl : lv_has ls 9 [(0, .ref b), (1, .ref (ad 0)), (2, .ref (ad 200)), (3, .ref (ad 300)), (4, .ref (ad 301)), (5, .int (nI i))] := lv_sub hl [1, 2, 3, 4, 5, 6] rfl
  obtain ⟨hM, hJ⟩ := sj_setCrossing J (xs (i + 1)) (if xs (i + 2) = 0 then 0 else 1) b01
  refine lv_aload_n hx hb dL_law_331 rfl (lv_at hl 2 rfl) ?_
  refine lw_arg (kn := 1) hx hb hX hbl hbA hS hL (by omega) (lv_at hl 0 rfl) (lv_at hl 5 rfl) dL_law_332 dL_law_333 dL_law_335 dL_law_336 dL_law_337 (by decide) ?_
  refine lw_arg (kn := 2) hx hb hX hbl hbA hS hL (by omega) (lv_at hl 0 rfl) (lv_at hl 5 rfl) dL_law_338 dL_law_339 dL_law_341 dL_law_342 dL_law_343 (by decide) ?_
  refine lw_bool hx hb dL_law_344 dL_law_347 dL_law_348 dL_law_351 ?_
  refine mt_cV1 (As := [.int (xs (i + 1)), .int (if xs (i + 2) = 0 then 0 else 1)]) (rest := []) S pv_X4_setCrossing mw_ml_L_127 (k_X4_setCrossing l hlt g z ad lc mc bc (c_X3_setCrossing_N lc mc bc N G (xs (i + 1)) (if xs (i + 2) = 0 then 0 else 1)) G (scase (c_X3_setCrossing lc mc bc N G (xs (i + 1)) (if xs (i + 2) = 0 then 0 else 1)) (fun _ => o) (fun x0 => vp_updL o 0 (if x0 = 0 then 0 else 1))) d hJ.1 hJ.2.1 hJ.2.2.1 (xs (i + 1)) (if xs (i + 2) = 0 then 0 else 1) hM b01) hC hW hS wc_200 rfl rfl rfl hl.1 rfl (Nat.le_of_ble_eq_true rfl) dL_law_352 ⟨(Nat.le_of_ble_eq_true rfl), (Nat.le_of_ble_eq_true rfl)⟩ ⟨by show _ ≤ 603072; omega, by show _ ≤ 7219306; omega⟩ rfl (fun H locs hW hS => ?_)
  refine lv_istore (lv' := [(7, .int (c_X4_setCrossing lc mc bc (c_X3_setCrossing_N lc mc bc N G (xs (i + 1)) (if xs (i + 2) = 0 then 0 else 1)) G (xs (i + 1)) (if xs (i + 2) = 0 then 0 else 1))), (0, .ref b), (1, .ref (ad 0)), (2, .ref (ad 200)), (3, .ref (ad 300)), (4, .ref (ad 301)), (5, .int (nI i))]) hx hb dL_law_355 hl (by decide) rfl (fun ls hl => ?_)
  have hl : lv_has ls 9 [(0, .ref b), (1, .ref (ad 0)), (2, .ref (ad 200)), (3, .ref (ad 300)), (4, .ref (ad 301)), (5, .int (nI i))] := lv_sub hl [1, 2, 3, 4, 5, 6] rfl
  refine lv_goto (tgt := 1045) hx hb dL_law_357 (by decide) ?_
  refine W.widen (k := cells + 8) (n := slots + 2100) (by omega) (by omega) ?_
  exact kk H locs ls ad lc mc bc (c_X4_setCrossing_N lc mc bc (c_X3_setCrossing_N lc mc bc N G (xs (i + 1)) (if xs (i + 2) = 0 then 0 else 1)) G (xs (i + 1)) (if xs (i + 2) = 0 then 0 else 1)) (c_X4_setCrossing_G lc mc bc (c_X3_setCrossing_N lc mc bc N G (xs (i + 1)) (if xs (i + 2) = 0 then 0 else 1)) G (xs (i + 1)) (if xs (i + 2) = 0 then 0 else 1)) (scase (c_X3_setCrossing lc mc bc N G (xs (i + 1)) (if xs (i + 2) = 0 then 0 else 1)) (fun _ => o) (fun x0 => vp_updL o 0 (if x0 = 0 then 0 else 1))) d hJ hW hS hl
set_option maxRecDepth 100000 in
set_option maxHeartbeats 4000000 in
theorem lc_5 : mt_LC 360 := by
  intro l hlt p e s m args below meth c w0 S z g hC b L xs hX hbl hbA hL Q ad lc mc bc N G o d J i hi H locs cells slots ls hcr hsl hW hS hl kk
  have hx := S.1
  have hb := S.2.1
  have hl : lv_has ls 9 [(0, .ref b), (1, .ref (ad 0)), (2, .ref (ad 200)), (3, .ref (ad 300)), (4, .ref (ad 301)), (5, .int (nI i))] := hl
  refine lv_aload_n hx hb dL_law_360 rfl (lv_at hl 1 rfl) ?_
  refine lw_arg (kn := 1) hx hb hX hbl hbA hS hL (by omega) (lv_at hl 0 rfl) (lv_at hl 5 rfl) dL_law_361 dL_law_362 dL_law_364 dL_law_365 dL_law_366 (by decide) ?_
  refine lv_aload_n hx hb dL_law_367 rfl (lv_at hl 3 rfl) ?_
  refine mt_cL (As := [.ref (ad 0), .int (xs (i + 1)), .ref (ad 300)]) (rest := []) S pL_served mw_ml_L_128 (k_L_served l hlt g z ad lc mc bc N G o d J.1 J.2.1 J.2.2.1 (xs (i + 1))) hC hW hS rfl hl.1 rfl (Nat.le_of_ble_eq_true rfl) dL_law_368 ⟨(Nat.le_of_ble_eq_true rfl), (Nat.le_of_ble_eq_true rfl)⟩ ⟨by show _ ≤ 603072; omega, by show _ ≤ 7219306; omega⟩ (fun H locs a1 hcc hW hS => ?_)
  rw [show a1 = ad from hcc] at hW
  have hW := hW.to wc_sl
  refine lv_istore (lv' := [(6, .int (scase (c_X3_served lc mc bc N G (xs (i + 1))) (fun E => if E = "java/lang/IllegalArgumentException" then 1 else if E = "java/util/NoSuchElementException" then 2 else 0) (fun _ => 0))), (0, .ref b), (1, .ref (ad 0)), (2, .ref (ad 200)), (3, .ref (ad 300)), (4, .ref (ad 301)), (5, .int (nI i))]) hx hb dL_law_371 hl (by decide) rfl (fun ls hl => ?_)
  have hl : lv_has ls 9 [(0, .ref b), (1, .ref (ad 0)), (2, .ref (ad 200)), (3, .ref (ad 300)), (4, .ref (ad 301)), (5, .int (nI i))] := lv_sub hl [1, 2, 3, 4, 5, 6] rfl
  obtain ⟨hM, hJ⟩ := sj_served J (xs (i + 1))
  refine lv_aload_n hx hb dL_law_373 rfl (lv_at hl 2 rfl) ?_
  refine lw_arg (kn := 1) hx hb hX hbl hbA hS hL (by omega) (lv_at hl 0 rfl) (lv_at hl 5 rfl) dL_law_374 dL_law_375 dL_law_377 dL_law_378 dL_law_379 (by decide) ?_
  refine mt_cV1 (As := [.int (xs (i + 1))]) (rest := []) S pv_X4_served mw_ml_L_130 (k_X4_served l hlt g z ad lc mc bc N G (scase (c_X3_served lc mc bc N G (xs (i + 1))) (fun _ => o) (fun x0 => vp_updL o 0 x0.toInt64)) d hJ.1 hJ.2.1 hJ.2.2.1 (xs (i + 1)) hM) hC hW hS wc_200 rfl rfl rfl hl.1 rfl (Nat.le_of_ble_eq_true rfl) dL_law_380 ⟨(Nat.le_of_ble_eq_true rfl), (Nat.le_of_ble_eq_true rfl)⟩ ⟨by show _ ≤ 603072; omega, by show _ ≤ 7219306; omega⟩ rfl (fun H locs hW hS => ?_)
  refine lv_istore (lv' := [(7, .int (c_X4_served lc mc bc N G (xs (i + 1)))), (0, .ref b), (1, .ref (ad 0)), (2, .ref (ad 200)), (3, .ref (ad 300)), (4, .ref (ad 301)), (5, .int (nI i))]) hx hb dL_law_383 hl (by decide) rfl (fun ls hl => ?_)
  have hl : lv_has ls 9 [(0, .ref b), (1, .ref (ad 0)), (2, .ref (ad 200)), (3, .ref (ad 300)), (4, .ref (ad 301)), (5, .int (nI i))] := lv_sub hl [1, 2, 3, 4, 5, 6] rfl
  refine lv_goto (tgt := 1045) hx hb dL_law_385 (by decide) ?_
  refine W.widen (k := cells + 8) (n := slots + 2100) (by omega) (by omega) ?_
  exact kk H locs ls ad lc mc bc (c_X4_served_N lc mc bc N G (xs (i + 1))) G (scase (c_X3_served lc mc bc N G (xs (i + 1))) (fun _ => o) (fun x0 => vp_updL o 0 x0.toInt64)) d hJ hW hS hl
set_option maxRecDepth 100000 in
set_option maxHeartbeats 4000000 in
theorem lc_6 : mt_LC 388 := by
  intro l hlt p e s m args below meth c w0 S z g hC b L xs hX hbl hbA hL Q ad lc mc bc N G o d J i hi H locs cells slots ls hcr hsl hW hS hl kk
  have hx := S.1
  have hb := S.2.1
  have hl : lv_has ls 9 [(0, .ref b), (1, .ref (ad 0)), (2, .ref (ad 200)), (3, .ref (ad 300)), (4, .ref (ad 301)), (5, .int (nI i))] := hl
  refine lv_aload_n hx hb dL_law_388 rfl (lv_at hl 1 rfl) ?_
  refine mt_cV1 (As := []) (rest := []) S pv_X3_covered mw_ml_L_131 (k_X3_covered l hlt g z ad lc mc bc N G o d J.1 J.2.1 J.2.2.1) hC hW hS wc_0 rfl rfl rfl hl.1 rfl (Nat.le_of_ble_eq_true rfl) dL_law_389 ⟨(Nat.le_of_ble_eq_true rfl), (Nat.le_of_ble_eq_true rfl)⟩ ⟨by show _ ≤ 603072; omega, by show _ ≤ 7219306; omega⟩ rfl (fun H locs hW hS => ?_)
  obtain ⟨hM, hJ⟩ := sj_covered J 
  refine lv_pop hx hb dL_law_392 rfl ?_
  refine lv_aload_n hx hb dL_law_393 rfl (lv_at hl 2 rfl) ?_
  refine mt_cV1 (As := []) (rest := []) S pv_X4_covered mw_ml_L_134 (k_X4_covered l hlt g z ad lc mc bc N G o d hJ.1 hJ.2.1 hJ.2.2.1 hM) hC hW hS wc_200 rfl rfl rfl hl.1 rfl (Nat.le_of_ble_eq_true rfl) dL_law_394 ⟨(Nat.le_of_ble_eq_true rfl), (Nat.le_of_ble_eq_true rfl)⟩ ⟨by show _ ≤ 603072; omega, by show _ ≤ 7219306; omega⟩ rfl (fun H locs hW hS => ?_)
  refine lv_pop hx hb dL_law_397 rfl ?_
  refine lv_goto (tgt := 1045) hx hb dL_law_398 (by decide) ?_
  refine W.widen (k := cells + 8) (n := slots + 2100) (by omega) (by omega) ?_
  exact kk H locs ls ad lc mc bc (c_X4_covered_N lc mc bc N G) G o d hJ hW hS hl
set_option maxRecDepth 100000 in
set_option maxHeartbeats 4000000 in
theorem lc_7 : mt_LC 401 := by
  intro l hlt p e s m args below meth c w0 S z g hC b L xs hX hbl hbA hL Q ad lc mc bc N G o d J i hi H locs cells slots ls hcr hsl hW hS hl kk
  have hx := S.1
  have hb := S.2.1
  have hl : lv_has ls 9 [(0, .ref b), (1, .ref (ad 0)), (2, .ref (ad 200)), (3, .ref (ad 300)), (4, .ref (ad 301)), (5, .int (nI i))] := hl
  refine lv_aload_n hx hb dL_law_401 rfl (lv_at hl 1 rfl) ?_
  refine lw_arg (kn := 1) hx hb hX hbl hbA hS hL (by omega) (lv_at hl 0 rfl) (lv_at hl 5 rfl) dL_law_402 dL_law_403 dL_law_405 dL_law_406 dL_law_407 (by decide) ?_
  refine lw_arg (kn := 2) hx hb hX hbl hbA hS hL (by omega) (lv_at hl 0 rfl) (lv_at hl 5 rfl) dL_law_408 dL_law_409 dL_law_411 dL_law_412 dL_law_413 (by decide) ?_
  refine lw_arg (kn := 3) hx hb hX hbl hbA hS hL (by omega) (lv_at hl 0 rfl) (lv_at hl 5 rfl) dL_law_414 dL_law_415 dL_law_417 dL_law_418 dL_law_419 (by decide) ?_
  refine lv_aload_n hx hb dL_law_420 rfl (lv_at hl 3 rfl) ?_
  refine mt_cL (As := [.ref (ad 0), .int (xs (i + 1)), .int (xs (i + 2)), .int (xs (i + 3)), .ref (ad 300)]) (rest := []) S pL_write mw_ml_L_135 (k_L_write l hlt g z ad lc mc bc N G o d J.1 J.2.1 J.2.2.1 (xs (i + 1)) (xs (i + 2)) (xs (i + 3))) hC hW hS rfl hl.1 rfl (Nat.le_of_ble_eq_true rfl) dL_law_421 ⟨(Nat.le_of_ble_eq_true rfl), (Nat.le_of_ble_eq_true rfl)⟩ ⟨by show _ ≤ 603072; omega, by show _ ≤ 7219306; omega⟩ (fun H locs a1 hcc hW hS => ?_)
  rw [show a1 = ad from hcc] at hW
  have hW := hW.to wc_sl
  refine lv_istore (lv' := [(6, .int (scase (c_X3_write lc mc bc N G (xs (i + 1)) (xs (i + 2)) (xs (i + 3))) (fun E => if E = "java/lang/IllegalArgumentException" then 1 else if E = "java/util/NoSuchElementException" then 2 else if E = "java/lang/UnsupportedOperationException" then 3 else 0) (fun _ => 0))), (0, .ref b), (1, .ref (ad 0)), (2, .ref (ad 200)), (3, .ref (ad 300)), (4, .ref (ad 301)), (5, .int (nI i))]) hx hb dL_law_424 hl (by decide) rfl (fun ls hl => ?_)
  have hl : lv_has ls 9 [(0, .ref b), (1, .ref (ad 0)), (2, .ref (ad 200)), (3, .ref (ad 300)), (4, .ref (ad 301)), (5, .int (nI i))] := lv_sub hl [1, 2, 3, 4, 5, 6] rfl
  obtain ⟨hM, hJ⟩ := sj_write J (xs (i + 1)) (xs (i + 2)) (xs (i + 3))
  refine lv_aload_n hx hb dL_law_426 rfl (lv_at hl 2 rfl) ?_
  refine lw_arg (kn := 1) hx hb hX hbl hbA hS hL (by omega) (lv_at hl 0 rfl) (lv_at hl 5 rfl) dL_law_427 dL_law_428 dL_law_430 dL_law_431 dL_law_432 (by decide) ?_
  refine lw_arg (kn := 2) hx hb hX hbl hbA hS hL (by omega) (lv_at hl 0 rfl) (lv_at hl 5 rfl) dL_law_433 dL_law_434 dL_law_436 dL_law_437 dL_law_438 (by decide) ?_
  refine lw_arg (kn := 3) hx hb hX hbl hbA hS hL (by omega) (lv_at hl 0 rfl) (lv_at hl 5 rfl) dL_law_439 dL_law_440 dL_law_442 dL_law_443 dL_law_444 (by decide) ?_
  refine mt_cV1 (As := [.int (xs (i + 1)), .int (xs (i + 2)), .int (xs (i + 3))]) (rest := []) S pv_X4_write mw_ml_L_137 (k_X4_write l hlt g z ad lc mc bc (c_X3_write_N lc mc bc N G (xs (i + 1)) (xs (i + 2)) (xs (i + 3))) (c_X3_write_G lc mc bc N G (xs (i + 1)) (xs (i + 2)) (xs (i + 3))) (scase (c_X3_write lc mc bc N G (xs (i + 1)) (xs (i + 2)) (xs (i + 3))) (fun _ => o) (fun x0 => vp_updL o 0 x0.toInt64)) d hJ.1 hJ.2.1 hJ.2.2.1 (xs (i + 1)) (xs (i + 2)) (xs (i + 3)) hM) hC hW hS wc_200 rfl rfl rfl hl.1 rfl (Nat.le_of_ble_eq_true rfl) dL_law_445 ⟨(Nat.le_of_ble_eq_true rfl), (Nat.le_of_ble_eq_true rfl)⟩ ⟨by show _ ≤ 603072; omega, by show _ ≤ 7219306; omega⟩ rfl (fun H locs hW hS => ?_)
  refine lv_istore (lv' := [(7, .int (c_X4_write lc mc bc (c_X3_write_N lc mc bc N G (xs (i + 1)) (xs (i + 2)) (xs (i + 3))) (c_X3_write_G lc mc bc N G (xs (i + 1)) (xs (i + 2)) (xs (i + 3))) (xs (i + 1)) (xs (i + 2)) (xs (i + 3)))), (0, .ref b), (1, .ref (ad 0)), (2, .ref (ad 200)), (3, .ref (ad 300)), (4, .ref (ad 301)), (5, .int (nI i))]) hx hb dL_law_448 hl (by decide) rfl (fun ls hl => ?_)
  have hl : lv_has ls 9 [(0, .ref b), (1, .ref (ad 0)), (2, .ref (ad 200)), (3, .ref (ad 300)), (4, .ref (ad 301)), (5, .int (nI i))] := lv_sub hl [1, 2, 3, 4, 5, 6] rfl
  refine lv_goto (tgt := 1045) hx hb dL_law_450 (by decide) ?_
  refine W.widen (k := cells + 8) (n := slots + 2100) (by omega) (by omega) ?_
  exact kk H locs ls ad lc mc bc (c_X4_write_N lc mc bc (c_X3_write_N lc mc bc N G (xs (i + 1)) (xs (i + 2)) (xs (i + 3))) (c_X3_write_G lc mc bc N G (xs (i + 1)) (xs (i + 2)) (xs (i + 3))) (xs (i + 1)) (xs (i + 2)) (xs (i + 3))) (c_X4_write_G lc mc bc (c_X3_write_N lc mc bc N G (xs (i + 1)) (xs (i + 2)) (xs (i + 3))) (c_X3_write_G lc mc bc N G (xs (i + 1)) (xs (i + 2)) (xs (i + 3))) (xs (i + 1)) (xs (i + 2)) (xs (i + 3))) (scase (c_X3_write lc mc bc N G (xs (i + 1)) (xs (i + 2)) (xs (i + 3))) (fun _ => o) (fun x0 => vp_updL o 0 x0.toInt64)) d hJ hW hS hl
set_option maxRecDepth 100000 in
set_option maxHeartbeats 4000000 in
theorem lc_8 : mt_LC 453 := by
  intro l hlt p e s m args below meth c w0 S z g hC b L xs hX hbl hbA hL Q ad lc mc bc N G o d J i hi H locs cells slots ls hcr hsl hW hS hl kk
  have hx := S.1
  have hb := S.2.1
  have hl : lv_has ls 9 [(0, .ref b), (1, .ref (ad 0)), (2, .ref (ad 200)), (3, .ref (ad 300)), (4, .ref (ad 301)), (5, .int (nI i))] := hl
  refine lv_aload_n hx hb dL_law_453 rfl (lv_at hl 1 rfl) ?_
  refine lw_arg (kn := 1) hx hb hX hbl hbA hS hL (by omega) (lv_at hl 0 rfl) (lv_at hl 5 rfl) dL_law_454 dL_law_455 dL_law_457 dL_law_458 dL_law_459 (by decide) ?_
  refine lw_arg (kn := 2) hx hb hX hbl hbA hS hL (by omega) (lv_at hl 0 rfl) (lv_at hl 5 rfl) dL_law_460 dL_law_461 dL_law_463 dL_law_464 dL_law_465 (by decide) ?_
  refine lw_arg (kn := 3) hx hb hX hbl hbA hS hL (by omega) (lv_at hl 0 rfl) (lv_at hl 5 rfl) dL_law_466 dL_law_467 dL_law_469 dL_law_470 dL_law_471 (by decide) ?_
  refine lv_aload_n hx hb dL_law_472 rfl (lv_at hl 3 rfl) ?_
  refine mt_cL (As := [.ref (ad 0), .int (xs (i + 1)), .int (xs (i + 2)), .int (xs (i + 3)), .ref (ad 300)]) (rest := []) S pL_link mw_ml_L_138 (k_L_link l hlt g z ad lc mc bc N G o d J.1 J.2.1 J.2.2.1 (xs (i + 1)) (xs (i + 2)) (xs (i + 3))) hC hW hS rfl hl.1 rfl (Nat.le_of_ble_eq_true rfl) dL_law_473 ⟨(Nat.le_of_ble_eq_true rfl), (Nat.le_of_ble_eq_true rfl)⟩ ⟨by show _ ≤ 603072; omega, by show _ ≤ 7219306; omega⟩ (fun H locs a1 hcc hW hS => ?_)
  rw [show a1 = ad from hcc] at hW
  have hW := hW.to wc_sl
  refine lv_istore (lv' := [(6, .int (scase (c_X3_link lc mc bc N G (xs (i + 1)) (xs (i + 2)) (xs (i + 3))) (fun E => if E = "java/lang/IllegalArgumentException" then 1 else if E = "java/util/NoSuchElementException" then 2 else 0) (fun _ => 0))), (0, .ref b), (1, .ref (ad 0)), (2, .ref (ad 200)), (3, .ref (ad 300)), (4, .ref (ad 301)), (5, .int (nI i))]) hx hb dL_law_476 hl (by decide) rfl (fun ls hl => ?_)
  have hl : lv_has ls 9 [(0, .ref b), (1, .ref (ad 0)), (2, .ref (ad 200)), (3, .ref (ad 300)), (4, .ref (ad 301)), (5, .int (nI i))] := lv_sub hl [1, 2, 3, 4, 5, 6] rfl
  obtain ⟨hM, hJ⟩ := sj_link J (xs (i + 1)) (xs (i + 2)) (xs (i + 3))
  refine lv_aload_n hx hb dL_law_478 rfl (lv_at hl 2 rfl) ?_
  refine lw_arg (kn := 1) hx hb hX hbl hbA hS hL (by omega) (lv_at hl 0 rfl) (lv_at hl 5 rfl) dL_law_479 dL_law_480 dL_law_482 dL_law_483 dL_law_484 (by decide) ?_
  refine lw_arg (kn := 2) hx hb hX hbl hbA hS hL (by omega) (lv_at hl 0 rfl) (lv_at hl 5 rfl) dL_law_485 dL_law_486 dL_law_488 dL_law_489 dL_law_490 (by decide) ?_
  refine lw_arg (kn := 3) hx hb hX hbl hbA hS hL (by omega) (lv_at hl 0 rfl) (lv_at hl 5 rfl) dL_law_491 dL_law_492 dL_law_494 dL_law_495 dL_law_496 (by decide) ?_
  refine mt_cV1 (As := [.int (xs (i + 1)), .int (xs (i + 2)), .int (xs (i + 3))]) (rest := []) S pv_X4_link mw_ml_L_140 (k_X4_link l hlt g z ad lc mc bc (c_X3_link_N lc mc bc N G (xs (i + 1)) (xs (i + 2)) (xs (i + 3))) (c_X3_link_G lc mc bc N G (xs (i + 1)) (xs (i + 2)) (xs (i + 3))) (scase (c_X3_link lc mc bc N G (xs (i + 1)) (xs (i + 2)) (xs (i + 3))) (fun _ => o) (fun x0 => vp_updL o 0 x0.toInt64)) d hJ.1 hJ.2.1 hJ.2.2.1 (xs (i + 1)) (xs (i + 2)) (xs (i + 3)) hM) hC hW hS wc_200 rfl rfl rfl hl.1 rfl (Nat.le_of_ble_eq_true rfl) dL_law_497 ⟨(Nat.le_of_ble_eq_true rfl), (Nat.le_of_ble_eq_true rfl)⟩ ⟨by show _ ≤ 603072; omega, by show _ ≤ 7219306; omega⟩ rfl (fun H locs hW hS => ?_)
  refine lv_istore (lv' := [(7, .int (c_X4_link lc mc bc (c_X3_link_N lc mc bc N G (xs (i + 1)) (xs (i + 2)) (xs (i + 3))) (c_X3_link_G lc mc bc N G (xs (i + 1)) (xs (i + 2)) (xs (i + 3))) (xs (i + 1)) (xs (i + 2)) (xs (i + 3)))), (0, .ref b), (1, .ref (ad 0)), (2, .ref (ad 200)), (3, .ref (ad 300)), (4, .ref (ad 301)), (5, .int (nI i))]) hx hb dL_law_500 hl (by decide) rfl (fun ls hl => ?_)
  have hl : lv_has ls 9 [(0, .ref b), (1, .ref (ad 0)), (2, .ref (ad 200)), (3, .ref (ad 300)), (4, .ref (ad 301)), (5, .int (nI i))] := lv_sub hl [1, 2, 3, 4, 5, 6] rfl
  refine lv_goto (tgt := 1045) hx hb dL_law_502 (by decide) ?_
  refine W.widen (k := cells + 8) (n := slots + 2100) (by omega) (by omega) ?_
  exact kk H locs ls ad lc mc bc (c_X4_link_N lc mc bc (c_X3_link_N lc mc bc N G (xs (i + 1)) (xs (i + 2)) (xs (i + 3))) (c_X3_link_G lc mc bc N G (xs (i + 1)) (xs (i + 2)) (xs (i + 3))) (xs (i + 1)) (xs (i + 2)) (xs (i + 3))) (c_X4_link_G lc mc bc (c_X3_link_N lc mc bc N G (xs (i + 1)) (xs (i + 2)) (xs (i + 3))) (c_X3_link_G lc mc bc N G (xs (i + 1)) (xs (i + 2)) (xs (i + 3))) (xs (i + 1)) (xs (i + 2)) (xs (i + 3))) (scase (c_X3_link lc mc bc N G (xs (i + 1)) (xs (i + 2)) (xs (i + 3))) (fun _ => o) (fun x0 => vp_updL o 0 x0.toInt64)) d hJ hW hS hl
set_option maxRecDepth 100000 in
set_option maxHeartbeats 4000000 in
theorem lc_9 : mt_LC 505 := by
  intro l hlt p e s m args below meth c w0 S z g hC b L xs hX hbl hbA hL Q ad lc mc bc N G o d J i hi H locs cells slots ls hcr hsl hW hS hl kk
  have hx := S.1
  have hb := S.2.1
  have hl : lv_has ls 9 [(0, .ref b), (1, .ref (ad 0)), (2, .ref (ad 200)), (3, .ref (ad 300)), (4, .ref (ad 301)), (5, .int (nI i))] := hl
  refine lv_aload_n hx hb dL_law_505 rfl (lv_at hl 1 rfl) ?_
  refine lw_arg (kn := 1) hx hb hX hbl hbA hS hL (by omega) (lv_at hl 0 rfl) (lv_at hl 5 rfl) dL_law_506 dL_law_507 dL_law_509 dL_law_510 dL_law_511 (by decide) ?_
  refine lv_aload_n hx hb dL_law_512 rfl (lv_at hl 3 rfl) ?_
  refine mt_cL (As := [.ref (ad 0), .int (xs (i + 1)), .ref (ad 300)]) (rest := []) S pL_remove mw_ml_L_141 (k_L_remove l hlt g z ad lc mc bc N G o d J.1 J.2.1 J.2.2.1 (xs (i + 1))) hC hW hS rfl hl.1 rfl (Nat.le_of_ble_eq_true rfl) dL_law_513 ⟨(Nat.le_of_ble_eq_true rfl), (Nat.le_of_ble_eq_true rfl)⟩ ⟨by show _ ≤ 603072; omega, by show _ ≤ 7219306; omega⟩ (fun H locs a1 hcc hW hS => ?_)
  rw [show a1 = ad from hcc] at hW
  have hW := hW.to wc_sl
  refine lv_istore (lv' := [(6, .int (scase (c_X3_remove lc mc bc N G (xs (i + 1))) (fun E => if E = "java/lang/IllegalArgumentException" then 1 else if E = "java/util/NoSuchElementException" then 2 else 0) (fun _ => 0))), (0, .ref b), (1, .ref (ad 0)), (2, .ref (ad 200)), (3, .ref (ad 300)), (4, .ref (ad 301)), (5, .int (nI i))]) hx hb dL_law_516 hl (by decide) rfl (fun ls hl => ?_)
  have hl : lv_has ls 9 [(0, .ref b), (1, .ref (ad 0)), (2, .ref (ad 200)), (3, .ref (ad 300)), (4, .ref (ad 301)), (5, .int (nI i))] := lv_sub hl [1, 2, 3, 4, 5, 6] rfl
  obtain ⟨hM, hJ⟩ := sj_remove J (xs (i + 1))
  refine lv_aload_n hx hb dL_law_518 rfl (lv_at hl 2 rfl) ?_
  refine lw_arg (kn := 1) hx hb hX hbl hbA hS hL (by omega) (lv_at hl 0 rfl) (lv_at hl 5 rfl) dL_law_519 dL_law_520 dL_law_522 dL_law_523 dL_law_524 (by decide) ?_
  refine mt_cV1 (As := [.int (xs (i + 1))]) (rest := []) S pv_X4_remove mw_ml_L_143 (k_X4_remove l hlt g z ad lc mc bc N (c_X3_remove_G lc mc bc N G (xs (i + 1))) (scase (c_X3_remove lc mc bc N G (xs (i + 1))) (fun _ => o) (fun x0 => vp_updL o 0 x0.toInt64)) d hJ.1 hJ.2.1 hJ.2.2.1 (xs (i + 1)) hM) hC hW hS wc_200 rfl rfl rfl hl.1 rfl (Nat.le_of_ble_eq_true rfl) dL_law_525 ⟨(Nat.le_of_ble_eq_true rfl), (Nat.le_of_ble_eq_true rfl)⟩ ⟨by show _ ≤ 603072; omega, by show _ ≤ 7219306; omega⟩ rfl (fun H locs hW hS => ?_)
  refine lv_istore (lv' := [(7, .int (c_X4_remove lc mc bc N (c_X3_remove_G lc mc bc N G (xs (i + 1))) (xs (i + 1)))), (0, .ref b), (1, .ref (ad 0)), (2, .ref (ad 200)), (3, .ref (ad 300)), (4, .ref (ad 301)), (5, .int (nI i))]) hx hb dL_law_528 hl (by decide) rfl (fun ls hl => ?_)
  have hl : lv_has ls 9 [(0, .ref b), (1, .ref (ad 0)), (2, .ref (ad 200)), (3, .ref (ad 300)), (4, .ref (ad 301)), (5, .int (nI i))] := lv_sub hl [1, 2, 3, 4, 5, 6] rfl
  refine lv_goto (tgt := 1045) hx hb dL_law_530 (by decide) ?_
  refine W.widen (k := cells + 8) (n := slots + 2100) (by omega) (by omega) ?_
  exact kk H locs ls ad lc mc bc (c_X4_remove_N lc mc bc N (c_X3_remove_G lc mc bc N G (xs (i + 1))) (xs (i + 1))) (c_X4_remove_G lc mc bc N (c_X3_remove_G lc mc bc N G (xs (i + 1))) (xs (i + 1))) (scase (c_X3_remove lc mc bc N G (xs (i + 1))) (fun _ => o) (fun x0 => vp_updL o 0 x0.toInt64)) d hJ hW hS hl
set_option maxRecDepth 100000 in
set_option maxHeartbeats 4000000 in
theorem lc_10 : mt_LC 533 := by
  intro l hlt p e s m args below meth c w0 S z g hC b L xs hX hbl hbA hL Q ad lc mc bc N G o d J i hi H locs cells slots ls hcr hsl hW hS hl kk
  have hx := S.1
  have hb := S.2.1
  have hl : lv_has ls 9 [(0, .ref b), (1, .ref (ad 0)), (2, .ref (ad 200)), (3, .ref (ad 300)), (4, .ref (ad 301)), (5, .int (nI i))] := hl
  refine lv_aload_n hx hb dL_law_533 rfl (lv_at hl 1 rfl) ?_
  refine lw_arg (kn := 1) hx hb hX hbl hbA hS hL (by omega) (lv_at hl 0 rfl) (lv_at hl 5 rfl) dL_law_534 dL_law_535 dL_law_537 dL_law_538 dL_law_539 (by decide) ?_
  refine lv_aload_n hx hb dL_law_540 rfl (lv_at hl 3 rfl) ?_
  refine mt_cL (As := [.ref (ad 0), .int (xs (i + 1)), .ref (ad 300)]) (rest := []) S pL_shows mw_ml_L_144 (k_L_shows l hlt g z ad lc mc bc N G o d J.1 J.2.1 J.2.2.1 (xs (i + 1))) hC hW hS rfl hl.1 rfl (Nat.le_of_ble_eq_true rfl) dL_law_541 ⟨(Nat.le_of_ble_eq_true rfl), (Nat.le_of_ble_eq_true rfl)⟩ ⟨by show _ ≤ 603072; omega, by show _ ≤ 7219306; omega⟩ (fun H locs a1 hcc hW hS => ?_)
  rw [show a1 = ad from hcc] at hW
  have hW := hW.to wc_sl
  refine lv_istore (lv' := [(6, .int (scase (c_X3_shows lc mc bc N G (xs (i + 1))) (fun E => if E = "java/lang/IllegalArgumentException" then 1 else 0) (fun _ => 0))), (0, .ref b), (1, .ref (ad 0)), (2, .ref (ad 200)), (3, .ref (ad 300)), (4, .ref (ad 301)), (5, .int (nI i))]) hx hb dL_law_544 hl (by decide) rfl (fun ls hl => ?_)
  have hl : lv_has ls 9 [(0, .ref b), (1, .ref (ad 0)), (2, .ref (ad 200)), (3, .ref (ad 300)), (4, .ref (ad 301)), (5, .int (nI i))] := lv_sub hl [1, 2, 3, 4, 5, 6] rfl
  obtain ⟨hM, hJ⟩ := sj_shows J (xs (i + 1))
  refine lv_aload_n hx hb dL_law_546 rfl (lv_at hl 2 rfl) ?_
  refine lw_arg (kn := 1) hx hb hX hbl hbA hS hL (by omega) (lv_at hl 0 rfl) (lv_at hl 5 rfl) dL_law_547 dL_law_548 dL_law_550 dL_law_551 dL_law_552 (by decide) ?_
  refine mt_cV1 (As := [.int (xs (i + 1))]) (rest := []) S pv_X4_shows mw_ml_L_146 (k_X4_shows l hlt g z ad lc mc bc N G (scase (c_X3_shows lc mc bc N G (xs (i + 1))) (fun _ => o) (fun x0 => vp_updL o 0 x0.toInt64)) d hJ.1 hJ.2.1 hJ.2.2.1 (xs (i + 1)) hM) hC hW hS wc_200 rfl rfl rfl hl.1 rfl (Nat.le_of_ble_eq_true rfl) dL_law_553 ⟨(Nat.le_of_ble_eq_true rfl), (Nat.le_of_ble_eq_true rfl)⟩ ⟨by show _ ≤ 603072; omega, by show _ ≤ 7219306; omega⟩ rfl (fun H locs hW hS => ?_)
  refine lv_istore (lv' := [(7, .int (c_X4_shows lc mc bc N G (xs (i + 1)))), (0, .ref b), (1, .ref (ad 0)), (2, .ref (ad 200)), (3, .ref (ad 300)), (4, .ref (ad 301)), (5, .int (nI i))]) hx hb dL_law_556 hl (by decide) rfl (fun ls hl => ?_)
  have hl : lv_has ls 9 [(0, .ref b), (1, .ref (ad 0)), (2, .ref (ad 200)), (3, .ref (ad 300)), (4, .ref (ad 301)), (5, .int (nI i))] := lv_sub hl [1, 2, 3, 4, 5, 6] rfl
  refine lv_goto (tgt := 1045) hx hb dL_law_558 (by decide) ?_
  refine W.widen (k := cells + 8) (n := slots + 2100) (by omega) (by omega) ?_
  exact kk H locs ls ad lc mc bc (c_X4_shows_N lc mc bc N G (xs (i + 1))) G (scase (c_X3_shows lc mc bc N G (xs (i + 1))) (fun _ => o) (fun x0 => vp_updL o 0 x0.toInt64)) d hJ hW hS hl
set_option maxRecDepth 100000 in
set_option maxHeartbeats 4000000 in
theorem lc_11 : mt_LC 561 := by
  intro l hlt p e s m args below meth c w0 S z g hC b L xs hX hbl hbA hL Q ad lc mc bc N G o d J i hi H locs cells slots ls hcr hsl hW hS hl kk
  have hx := S.1
  have hb := S.2.1
  have hl : lv_has ls 9 [(0, .ref b), (1, .ref (ad 0)), (2, .ref (ad 200)), (3, .ref (ad 300)), (4, .ref (ad 301)), (5, .int (nI i))] := hl
  refine lv_aload_n hx hb dL_law_561 rfl (lv_at hl 1 rfl) ?_
  refine lw_arg (kn := 1) hx hb hX hbl hbA hS hL (by omega) (lv_at hl 0 rfl) (lv_at hl 5 rfl) dL_law_562 dL_law_563 dL_law_565 dL_law_566 dL_law_567 (by decide) ?_
  refine lv_aload_n hx hb dL_law_568 rfl (lv_at hl 3 rfl) ?_
  refine mt_cL (As := [.ref (ad 0), .int (xs (i + 1)), .ref (ad 300)]) (rest := []) S pL_layerOf mw_ml_L_147 (k_L_layerOf l hlt g z ad lc mc bc N G o d J.1 J.2.1 J.2.2.1 (xs (i + 1))) hC hW hS rfl hl.1 rfl (Nat.le_of_ble_eq_true rfl) dL_law_569 ⟨(Nat.le_of_ble_eq_true rfl), (Nat.le_of_ble_eq_true rfl)⟩ ⟨by show _ ≤ 603072; omega, by show _ ≤ 7219306; omega⟩ (fun H locs a1 hcc hW hS => ?_)
  rw [show a1 = ad from hcc] at hW
  have hW := hW.to wc_sl
  refine lv_istore (lv' := [(6, .int (scase (c_X3_layerOf lc mc bc N G (xs (i + 1))) (fun E => if E = "java/lang/IllegalArgumentException" then 1 else if E = "java/util/NoSuchElementException" then 2 else 0) (fun _ => 0))), (0, .ref b), (1, .ref (ad 0)), (2, .ref (ad 200)), (3, .ref (ad 300)), (4, .ref (ad 301)), (5, .int (nI i))]) hx hb dL_law_572 hl (by decide) rfl (fun ls hl => ?_)
  have hl : lv_has ls 9 [(0, .ref b), (1, .ref (ad 0)), (2, .ref (ad 200)), (3, .ref (ad 300)), (4, .ref (ad 301)), (5, .int (nI i))] := lv_sub hl [1, 2, 3, 4, 5, 6] rfl
  obtain ⟨hM, hJ⟩ := sj_layerOf J (xs (i + 1))
  refine lv_aload_n hx hb dL_law_574 rfl (lv_at hl 2 rfl) ?_
  refine lw_arg (kn := 1) hx hb hX hbl hbA hS hL (by omega) (lv_at hl 0 rfl) (lv_at hl 5 rfl) dL_law_575 dL_law_576 dL_law_578 dL_law_579 dL_law_580 (by decide) ?_
  refine mt_cV1 (As := [.int (xs (i + 1))]) (rest := []) S pv_X4_layerOf mw_ml_L_149 (k_X4_layerOf l hlt g z ad lc mc bc N G (scase (c_X3_layerOf lc mc bc N G (xs (i + 1))) (fun _ => o) (fun x0 => vp_updL o 0 x0.toInt64)) d hJ.1 hJ.2.1 hJ.2.2.1 (xs (i + 1)) hM) hC hW hS wc_200 rfl rfl rfl hl.1 rfl (Nat.le_of_ble_eq_true rfl) dL_law_581 ⟨(Nat.le_of_ble_eq_true rfl), (Nat.le_of_ble_eq_true rfl)⟩ ⟨by show _ ≤ 603072; omega, by show _ ≤ 7219306; omega⟩ rfl (fun H locs hW hS => ?_)
  refine lv_istore (lv' := [(7, .int (c_X4_layerOf lc mc bc N G (xs (i + 1)))), (0, .ref b), (1, .ref (ad 0)), (2, .ref (ad 200)), (3, .ref (ad 300)), (4, .ref (ad 301)), (5, .int (nI i))]) hx hb dL_law_584 hl (by decide) rfl (fun ls hl => ?_)
  have hl : lv_has ls 9 [(0, .ref b), (1, .ref (ad 0)), (2, .ref (ad 200)), (3, .ref (ad 300)), (4, .ref (ad 301)), (5, .int (nI i))] := lv_sub hl [1, 2, 3, 4, 5, 6] rfl
  refine lv_goto (tgt := 1045) hx hb dL_law_586 (by decide) ?_
  refine W.widen (k := cells + 8) (n := slots + 2100) (by omega) (by omega) ?_
  exact kk H locs ls ad lc mc bc (c_X4_layerOf_N lc mc bc N G (xs (i + 1))) G (scase (c_X3_layerOf lc mc bc N G (xs (i + 1))) (fun _ => o) (fun x0 => vp_updL o 0 x0.toInt64)) d hJ hW hS hl
set_option maxRecDepth 100000 in
set_option maxHeartbeats 4000000 in
theorem lc_12 : mt_LC 589 := by
  intro l hlt p e s m args below meth c w0 S z g hC b L xs hX hbl hbA hL Q ad lc mc bc N G o d J i hi H locs cells slots ls hcr hsl hW hS hl kk
  have hx := S.1
  have hb := S.2.1
  have hl : lv_has ls 9 [(0, .ref b), (1, .ref (ad 0)), (2, .ref (ad 200)), (3, .ref (ad 300)), (4, .ref (ad 301)), (5, .int (nI i))] := hl
  refine lv_aload_n hx hb dL_law_589 rfl (lv_at hl 1 rfl) ?_
  refine lw_arg (kn := 1) hx hb hX hbl hbA hS hL (by omega) (lv_at hl 0 rfl) (lv_at hl 5 rfl) dL_law_590 dL_law_591 dL_law_593 dL_law_594 dL_law_595 (by decide) ?_
  refine lv_aload_n hx hb dL_law_596 rfl (lv_at hl 3 rfl) ?_
  refine mt_cL (As := [.ref (ad 0), .int (xs (i + 1)), .ref (ad 300)]) (rest := []) S pL_end mw_ml_L_150 (k_L_end l hlt g z ad lc mc bc N G o d J.1 J.2.1 J.2.2.1 (xs (i + 1))) hC hW hS rfl hl.1 rfl (Nat.le_of_ble_eq_true rfl) dL_law_597 ⟨(Nat.le_of_ble_eq_true rfl), (Nat.le_of_ble_eq_true rfl)⟩ ⟨by show _ ≤ 603072; omega, by show _ ≤ 7219306; omega⟩ (fun H locs a1 hcc hW hS => ?_)
  rw [show a1 = ad from hcc] at hW
  have hW := hW.to wc_sl
  refine lv_istore (lv' := [(6, .int (scase (c_X3_end lc mc bc N G (xs (i + 1))) (fun E => if E = "java/lang/IllegalArgumentException" then 1 else if E = "java/lang/UnsupportedOperationException" then 2 else if E = "java/lang/IllegalStateException" then 3 else 0) (fun _ => 0))), (0, .ref b), (1, .ref (ad 0)), (2, .ref (ad 200)), (3, .ref (ad 300)), (4, .ref (ad 301)), (5, .int (nI i))]) hx hb dL_law_600 hl (by decide) rfl (fun ls hl => ?_)
  have hl : lv_has ls 9 [(0, .ref b), (1, .ref (ad 0)), (2, .ref (ad 200)), (3, .ref (ad 300)), (4, .ref (ad 301)), (5, .int (nI i))] := lv_sub hl [1, 2, 3, 4, 5, 6] rfl
  obtain ⟨hM, hJ⟩ := sj_end J (xs (i + 1))
  refine lv_aload_n hx hb dL_law_602 rfl (lv_at hl 2 rfl) ?_
  refine lw_arg (kn := 1) hx hb hX hbl hbA hS hL (by omega) (lv_at hl 0 rfl) (lv_at hl 5 rfl) dL_law_603 dL_law_604 dL_law_606 dL_law_607 dL_law_608 (by decide) ?_
  refine mt_cV1 (As := [.int (xs (i + 1))]) (rest := []) S pv_X4_end mw_ml_L_152 (k_X4_end l hlt g z ad lc mc bc N G (scase (c_X3_end lc mc bc N G (xs (i + 1))) (fun _ => o) (fun x0 => vp_updL o 0 x0.toInt64)) d hJ.1 hJ.2.1 hJ.2.2.1 (xs (i + 1)) hM) hC hW hS wc_200 rfl rfl rfl hl.1 rfl (Nat.le_of_ble_eq_true rfl) dL_law_609 ⟨(Nat.le_of_ble_eq_true rfl), (Nat.le_of_ble_eq_true rfl)⟩ ⟨by show _ ≤ 603072; omega, by show _ ≤ 7219306; omega⟩ rfl (fun H locs hW hS => ?_)
  refine lv_istore (lv' := [(7, .int (c_X4_end lc mc bc N G (xs (i + 1)))), (0, .ref b), (1, .ref (ad 0)), (2, .ref (ad 200)), (3, .ref (ad 300)), (4, .ref (ad 301)), (5, .int (nI i))]) hx hb dL_law_612 hl (by decide) rfl (fun ls hl => ?_)
  have hl : lv_has ls 9 [(0, .ref b), (1, .ref (ad 0)), (2, .ref (ad 200)), (3, .ref (ad 300)), (4, .ref (ad 301)), (5, .int (nI i))] := lv_sub hl [1, 2, 3, 4, 5, 6] rfl
  refine lv_goto (tgt := 1045) hx hb dL_law_614 (by decide) ?_
  refine W.widen (k := cells + 8) (n := slots + 2100) (by omega) (by omega) ?_
  exact kk H locs ls ad lc mc bc (mt_gu N 200 15 (en_r lc mc bc N G (xs (i + 1))).2) G (scase (c_X3_end lc mc bc N G (xs (i + 1))) (fun _ => o) (fun x0 => vp_updL o 0 x0.toInt64)) d hJ hW hS hl
set_option maxRecDepth 100000 in
set_option maxHeartbeats 4000000 in
theorem lc_13 : mt_LC 617 := by
  intro l hlt p e s m args below meth c w0 S z g hC b L xs hX hbl hbA hL Q ad lc mc bc N G o d J i hi H locs cells slots ls hcr hsl hW hS hl kk
  have hx := S.1
  have hb := S.2.1
  have hl : lv_has ls 9 [(0, .ref b), (1, .ref (ad 0)), (2, .ref (ad 200)), (3, .ref (ad 300)), (4, .ref (ad 301)), (5, .int (nI i))] := hl
  refine lv_aload_n hx hb dL_law_617 rfl (lv_at hl 1 rfl) ?_
  refine lw_arg (kn := 1) hx hb hX hbl hbA hS hL (by omega) (lv_at hl 0 rfl) (lv_at hl 5 rfl) dL_law_618 dL_law_619 dL_law_621 dL_law_622 dL_law_623 (by decide) ?_
  refine lv_aload_n hx hb dL_law_624 rfl (lv_at hl 3 rfl) ?_
  refine mt_cL (As := [.ref (ad 0), .int (xs (i + 1)), .ref (ad 300)]) (rest := []) S pL_size mw_ml_L_153 (k_L_size l hlt g z ad lc mc bc N G o d J.1 J.2.1 J.2.2.1 (xs (i + 1))) hC hW hS rfl hl.1 rfl (Nat.le_of_ble_eq_true rfl) dL_law_625 ⟨(Nat.le_of_ble_eq_true rfl), (Nat.le_of_ble_eq_true rfl)⟩ ⟨by show _ ≤ 603072; omega, by show _ ≤ 7219306; omega⟩ (fun H locs a1 hcc hW hS => ?_)
  rw [show a1 = ad from hcc] at hW
  have hW := hW.to wc_sl
  refine lv_istore (lv' := [(6, .int (scase (c_X3_size lc mc bc N G (xs (i + 1))) (fun E => if E = "java/lang/IllegalArgumentException" then 1 else if E = "java/lang/UnsupportedOperationException" then 2 else if E = "java/lang/IllegalStateException" then 3 else if E = "java/util/NoSuchElementException" then 4 else 0) (fun _ => 0))), (0, .ref b), (1, .ref (ad 0)), (2, .ref (ad 200)), (3, .ref (ad 300)), (4, .ref (ad 301)), (5, .int (nI i))]) hx hb dL_law_628 hl (by decide) rfl (fun ls hl => ?_)
  have hl : lv_has ls 9 [(0, .ref b), (1, .ref (ad 0)), (2, .ref (ad 200)), (3, .ref (ad 300)), (4, .ref (ad 301)), (5, .int (nI i))] := lv_sub hl [1, 2, 3, 4, 5, 6] rfl
  obtain ⟨hM, hJ⟩ := sj_size J (xs (i + 1))
  refine lv_aload_n hx hb dL_law_630 rfl (lv_at hl 2 rfl) ?_
  refine lw_arg (kn := 1) hx hb hX hbl hbA hS hL (by omega) (lv_at hl 0 rfl) (lv_at hl 5 rfl) dL_law_631 dL_law_632 dL_law_634 dL_law_635 dL_law_636 (by decide) ?_
  refine mt_cV1 (As := [.int (xs (i + 1))]) (rest := []) S pv_X4_size mw_ml_L_155 (k_X4_size l hlt g z ad lc mc bc N G (scase (c_X3_size lc mc bc N G (xs (i + 1))) (fun _ => o) (fun x0 => vp_updL o 0 x0.toInt64)) d hJ.1 hJ.2.1 hJ.2.2.1 (xs (i + 1)) hM) hC hW hS wc_200 rfl rfl rfl hl.1 rfl (Nat.le_of_ble_eq_true rfl) dL_law_637 ⟨(Nat.le_of_ble_eq_true rfl), (Nat.le_of_ble_eq_true rfl)⟩ ⟨by show _ ≤ 603072; omega, by show _ ≤ 7219306; omega⟩ rfl (fun H locs hW hS => ?_)
  refine lv_istore (lv' := [(7, .int (c_X4_size lc mc bc N G (xs (i + 1)))), (0, .ref b), (1, .ref (ad 0)), (2, .ref (ad 200)), (3, .ref (ad 300)), (4, .ref (ad 301)), (5, .int (nI i))]) hx hb dL_law_640 hl (by decide) rfl (fun ls hl => ?_)
  have hl : lv_has ls 9 [(0, .ref b), (1, .ref (ad 0)), (2, .ref (ad 200)), (3, .ref (ad 300)), (4, .ref (ad 301)), (5, .int (nI i))] := lv_sub hl [1, 2, 3, 4, 5, 6] rfl
  refine lv_goto (tgt := 1045) hx hb dL_law_642 (by decide) ?_
  refine W.widen (k := cells + 8) (n := slots + 2100) (by omega) (by omega) ?_
  exact kk H locs ls ad lc mc bc (c_X4_size_N lc mc bc N G (xs (i + 1))) G (scase (c_X3_size lc mc bc N G (xs (i + 1))) (fun _ => o) (fun x0 => vp_updL o 0 x0.toInt64)) d hJ hW hS hl
set_option maxRecDepth 100000 in
set_option maxHeartbeats 4000000 in
theorem lc_14 : mt_LC 645 := by
  intro l hlt p e s m args below meth c w0 S z g hC b L xs hX hbl hbA hL Q ad lc mc bc N G o d J i hi H locs cells slots ls hcr hsl hW hS hl kk
  have hx := S.1
  have hb := S.2.1
  have hl : lv_has ls 9 [(0, .ref b), (1, .ref (ad 0)), (2, .ref (ad 200)), (3, .ref (ad 300)), (4, .ref (ad 301)), (5, .int (nI i))] := hl
  refine lv_aload_n hx hb dL_law_645 rfl (lv_at hl 1 rfl) ?_
  refine lw_arg (kn := 1) hx hb hX hbl hbA hS hL (by omega) (lv_at hl 0 rfl) (lv_at hl 5 rfl) dL_law_646 dL_law_647 dL_law_649 dL_law_650 dL_law_651 (by decide) ?_
  refine lv_aload_n hx hb dL_law_652 rfl (lv_at hl 3 rfl) ?_
  refine mt_cL (As := [.ref (ad 0), .int (xs (i + 1)), .ref (ad 300)]) (rest := []) S pL_sizeByWalking mw_ml_L_156 (k_L_sizeByWalking l hlt g z ad lc mc bc N G o d J.1 J.2.1 J.2.2.1 (xs (i + 1))) hC hW hS rfl hl.1 rfl (Nat.le_of_ble_eq_true rfl) dL_law_653 ⟨(Nat.le_of_ble_eq_true rfl), (Nat.le_of_ble_eq_true rfl)⟩ ⟨by show _ ≤ 603072; omega, by show _ ≤ 7219306; omega⟩ (fun H locs a1 hcc hW hS => ?_)
  rw [show a1 = ad from hcc] at hW
  have hW := hW.to wc_sl
  refine lv_istore (lv' := [(6, .int (scase (c_X3_sizeByWalking lc mc bc N G (xs (i + 1))) (fun E => if E = "java/lang/IllegalArgumentException" then 1 else 0) (fun _ => 0))), (0, .ref b), (1, .ref (ad 0)), (2, .ref (ad 200)), (3, .ref (ad 300)), (4, .ref (ad 301)), (5, .int (nI i))]) hx hb dL_law_656 hl (by decide) rfl (fun ls hl => ?_)
  have hl : lv_has ls 9 [(0, .ref b), (1, .ref (ad 0)), (2, .ref (ad 200)), (3, .ref (ad 300)), (4, .ref (ad 301)), (5, .int (nI i))] := lv_sub hl [1, 2, 3, 4, 5, 6] rfl
  obtain ⟨hM, hJ⟩ := sj_sizeByWalking J (xs (i + 1))
  refine lv_aload_n hx hb dL_law_658 rfl (lv_at hl 2 rfl) ?_
  refine lw_arg (kn := 1) hx hb hX hbl hbA hS hL (by omega) (lv_at hl 0 rfl) (lv_at hl 5 rfl) dL_law_659 dL_law_660 dL_law_662 dL_law_663 dL_law_664 (by decide) ?_
  refine mt_cV1 (As := [.int (xs (i + 1))]) (rest := []) S pv_X4_sizeByWalking mw_ml_L_158 (k_X4_sizeByWalking l hlt g z ad lc mc bc N G (scase (c_X3_sizeByWalking lc mc bc N G (xs (i + 1))) (fun _ => o) (fun x0 => vp_updL o 0 x0.toInt64)) d hJ.1 hJ.2.1 hJ.2.2.1 (xs (i + 1)) hM) hC hW hS wc_200 rfl rfl rfl hl.1 rfl (Nat.le_of_ble_eq_true rfl) dL_law_665 ⟨(Nat.le_of_ble_eq_true rfl), (Nat.le_of_ble_eq_true rfl)⟩ ⟨by show _ ≤ 603072; omega, by show _ ≤ 7219306; omega⟩ rfl (fun H locs hW hS => ?_)
  refine lv_istore (lv' := [(7, .int (c_X4_sizeByWalking lc mc bc N G (xs (i + 1)))), (0, .ref b), (1, .ref (ad 0)), (2, .ref (ad 200)), (3, .ref (ad 300)), (4, .ref (ad 301)), (5, .int (nI i))]) hx hb dL_law_668 hl (by decide) rfl (fun ls hl => ?_)
  have hl : lv_has ls 9 [(0, .ref b), (1, .ref (ad 0)), (2, .ref (ad 200)), (3, .ref (ad 300)), (4, .ref (ad 301)), (5, .int (nI i))] := lv_sub hl [1, 2, 3, 4, 5, 6] rfl
  refine lv_goto (tgt := 1045) hx hb dL_law_670 (by decide) ?_
  refine W.widen (k := cells + 8) (n := slots + 2100) (by omega) (by omega) ?_
  exact kk H locs ls ad lc mc bc (c_X4_sizeByWalking_N lc mc bc N G (xs (i + 1))) G (scase (c_X3_sizeByWalking lc mc bc N G (xs (i + 1))) (fun _ => o) (fun x0 => vp_updL o 0 x0.toInt64)) d hJ hW hS hl
set_option maxRecDepth 100000 in
set_option maxHeartbeats 4000000 in
theorem lc_15 : mt_LC 673 := by
  intro l hlt p e s m args below meth c w0 S z g hC b L xs hX hbl hbA hL Q ad lc mc bc N G o d J i hi H locs cells slots ls hcr hsl hW hS hl kk
  have hx := S.1
  have hb := S.2.1
  have hl : lv_has ls 9 [(0, .ref b), (1, .ref (ad 0)), (2, .ref (ad 200)), (3, .ref (ad 300)), (4, .ref (ad 301)), (5, .int (nI i))] := hl
  refine lv_aload_n hx hb dL_law_673 rfl (lv_at hl 1 rfl) ?_
  refine lw_arg (kn := 1) hx hb hX hbl hbA hS hL (by omega) (lv_at hl 0 rfl) (lv_at hl 5 rfl) dL_law_674 dL_law_675 dL_law_677 dL_law_678 dL_law_679 (by decide) ?_
  refine lv_aload_n hx hb dL_law_680 rfl (lv_at hl 3 rfl) ?_
  refine mt_cL (As := [.ref (ad 0), .int (xs (i + 1)), .ref (ad 300)]) (rest := []) S pL_ownerOf mw_ml_L_159 (k_L_ownerOf l hlt g z ad lc mc bc N G o d J.1 J.2.1 J.2.2.1 (xs (i + 1))) hC hW hS rfl hl.1 rfl (Nat.le_of_ble_eq_true rfl) dL_law_681 ⟨(Nat.le_of_ble_eq_true rfl), (Nat.le_of_ble_eq_true rfl)⟩ ⟨by show _ ≤ 603072; omega, by show _ ≤ 7219306; omega⟩ (fun H locs a1 hcc hW hS => ?_)
  rw [show a1 = ad from hcc] at hW
  have hW := hW.to wc_sl
  refine lv_istore (lv' := [(6, .int (scase (c_X3_ownerOf lc mc bc N G (xs (i + 1))) (fun E => if E = "java/lang/IllegalArgumentException" then 1 else if E = "java/util/NoSuchElementException" then 2 else 0) (fun _ => 0))), (0, .ref b), (1, .ref (ad 0)), (2, .ref (ad 200)), (3, .ref (ad 300)), (4, .ref (ad 301)), (5, .int (nI i))]) hx hb dL_law_684 hl (by decide) rfl (fun ls hl => ?_)
  have hl : lv_has ls 9 [(0, .ref b), (1, .ref (ad 0)), (2, .ref (ad 200)), (3, .ref (ad 300)), (4, .ref (ad 301)), (5, .int (nI i))] := lv_sub hl [1, 2, 3, 4, 5, 6] rfl
  obtain ⟨hM, hJ⟩ := sj_ownerOf J (xs (i + 1))
  refine lv_aload_n hx hb dL_law_686 rfl (lv_at hl 2 rfl) ?_
  refine lw_arg (kn := 1) hx hb hX hbl hbA hS hL (by omega) (lv_at hl 0 rfl) (lv_at hl 5 rfl) dL_law_687 dL_law_688 dL_law_690 dL_law_691 dL_law_692 (by decide) ?_
  refine mt_cV1 (As := [.int (xs (i + 1))]) (rest := []) S pv_X4_ownerOf mw_ml_L_161 (k_X4_ownerOf l hlt g z ad lc mc bc N G (scase (c_X3_ownerOf lc mc bc N G (xs (i + 1))) (fun _ => o) (fun x0 => vp_updL o 0 x0.toInt64)) d hJ.1 hJ.2.1 hJ.2.2.1 (xs (i + 1)) hM) hC hW hS wc_200 rfl rfl rfl hl.1 rfl (Nat.le_of_ble_eq_true rfl) dL_law_693 ⟨(Nat.le_of_ble_eq_true rfl), (Nat.le_of_ble_eq_true rfl)⟩ ⟨by show _ ≤ 603072; omega, by show _ ≤ 7219306; omega⟩ rfl (fun H locs hW hS => ?_)
  refine lv_istore (lv' := [(7, .int (c_X4_ownerOf lc mc bc N G (xs (i + 1)))), (0, .ref b), (1, .ref (ad 0)), (2, .ref (ad 200)), (3, .ref (ad 300)), (4, .ref (ad 301)), (5, .int (nI i))]) hx hb dL_law_696 hl (by decide) rfl (fun ls hl => ?_)
  have hl : lv_has ls 9 [(0, .ref b), (1, .ref (ad 0)), (2, .ref (ad 200)), (3, .ref (ad 300)), (4, .ref (ad 301)), (5, .int (nI i))] := lv_sub hl [1, 2, 3, 4, 5, 6] rfl
  refine lv_goto (tgt := 1045) hx hb dL_law_698 (by decide) ?_
  refine W.widen (k := cells + 8) (n := slots + 2100) (by omega) (by omega) ?_
  exact kk H locs ls ad lc mc bc (c_X4_ownerOf_N lc mc bc N G (xs (i + 1))) G (scase (c_X3_ownerOf lc mc bc N G (xs (i + 1))) (fun _ => o) (fun x0 => vp_updL o 0 x0.toInt64)) d hJ hW hS hl
set_option maxRecDepth 100000 in
set_option maxHeartbeats 4000000 in
theorem lc_16 : mt_LC 701 := by
  intro l hlt p e s m args below meth c w0 S z g hC b L xs hX hbl hbA hL Q ad lc mc bc N G o d J i hi H locs cells slots ls hcr hsl hW hS hl kk
  have hx := S.1
  have hb := S.2.1
  have hl : lv_has ls 9 [(0, .ref b), (1, .ref (ad 0)), (2, .ref (ad 200)), (3, .ref (ad 300)), (4, .ref (ad 301)), (5, .int (nI i))] := hl
  refine lv_aload_n hx hb dL_law_701 rfl (lv_at hl 1 rfl) ?_
  refine lw_arg (kn := 1) hx hb hX hbl hbA hS hL (by omega) (lv_at hl 0 rfl) (lv_at hl 5 rfl) dL_law_702 dL_law_703 dL_law_705 dL_law_706 dL_law_707 (by decide) ?_
  refine lw_arg (kn := 2) hx hb hX hbl hbA hS hL (by omega) (lv_at hl 0 rfl) (lv_at hl 5 rfl) dL_law_708 dL_law_709 dL_law_711 dL_law_712 dL_law_713 (by decide) ?_
  refine lv_aload_n hx hb dL_law_714 rfl (lv_at hl 3 rfl) ?_
  refine mt_cL (As := [.ref (ad 0), .int (xs (i + 1)), .int (xs (i + 2)), .ref (ad 300)]) (rest := []) S pL_setQuota mw_ml_L_162 (k_L_setQuota l hlt g z ad lc mc bc N G o d J.1 J.2.1 J.2.2.1 (xs (i + 1)) (xs (i + 2))) hC hW hS rfl hl.1 rfl (Nat.le_of_ble_eq_true rfl) dL_law_715 ⟨(Nat.le_of_ble_eq_true rfl), (Nat.le_of_ble_eq_true rfl)⟩ ⟨by show _ ≤ 603072; omega, by show _ ≤ 7219306; omega⟩ (fun H locs a1 hcc hW hS => ?_)
  rw [show a1 = ad from hcc] at hW
  have hW := hW.to wc_sl
  refine lv_istore (lv' := [(6, .int (scase (c_X3_setQuota lc mc bc N G (xs (i + 1)) (xs (i + 2))) (fun E => if E = "java/lang/IllegalArgumentException" then 1 else 0) (fun _ => 0))), (0, .ref b), (1, .ref (ad 0)), (2, .ref (ad 200)), (3, .ref (ad 300)), (4, .ref (ad 301)), (5, .int (nI i))]) hx hb dL_law_718 hl (by decide) rfl (fun ls hl => ?_)
  have hl : lv_has ls 9 [(0, .ref b), (1, .ref (ad 0)), (2, .ref (ad 200)), (3, .ref (ad 300)), (4, .ref (ad 301)), (5, .int (nI i))] := lv_sub hl [1, 2, 3, 4, 5, 6] rfl
  obtain ⟨hM, hJ⟩ := sj_setQuota J (xs (i + 1)) (xs (i + 2))
  refine lv_aload_n hx hb dL_law_720 rfl (lv_at hl 2 rfl) ?_
  refine lw_arg (kn := 1) hx hb hX hbl hbA hS hL (by omega) (lv_at hl 0 rfl) (lv_at hl 5 rfl) dL_law_721 dL_law_722 dL_law_724 dL_law_725 dL_law_726 (by decide) ?_
  refine lw_arg (kn := 2) hx hb hX hbl hbA hS hL (by omega) (lv_at hl 0 rfl) (lv_at hl 5 rfl) dL_law_727 dL_law_728 dL_law_730 dL_law_731 dL_law_732 (by decide) ?_
  refine mt_cV1 (As := [.int (xs (i + 1)), .int (xs (i + 2))]) (rest := []) S pv_X4_setQuota mw_ml_L_164 (k_X4_setQuota l hlt g z ad lc mc bc N (c_X3_setQuota_G lc mc bc N G (xs (i + 1)) (xs (i + 2))) (scase (c_X3_setQuota lc mc bc N G (xs (i + 1)) (xs (i + 2))) (fun _ => o) (fun x0 => vp_updL o 0 x0.toInt64)) d hJ.1 hJ.2.1 hJ.2.2.1 (xs (i + 1)) (xs (i + 2))) hC hW hS wc_200 rfl rfl rfl hl.1 rfl (Nat.le_of_ble_eq_true rfl) dL_law_733 ⟨(Nat.le_of_ble_eq_true rfl), (Nat.le_of_ble_eq_true rfl)⟩ ⟨by show _ ≤ 603072; omega, by show _ ≤ 7219306; omega⟩ rfl (fun H locs hW hS => ?_)
  refine lv_istore (lv' := [(7, .int (c_X4_setQuota lc mc bc N (c_X3_setQuota_G lc mc bc N G (xs (i + 1)) (xs (i + 2))) (xs (i + 1)) (xs (i + 2)))), (0, .ref b), (1, .ref (ad 0)), (2, .ref (ad 200)), (3, .ref (ad 300)), (4, .ref (ad 301)), (5, .int (nI i))]) hx hb dL_law_736 hl (by decide) rfl (fun ls hl => ?_)
  have hl : lv_has ls 9 [(0, .ref b), (1, .ref (ad 0)), (2, .ref (ad 200)), (3, .ref (ad 300)), (4, .ref (ad 301)), (5, .int (nI i))] := lv_sub hl [1, 2, 3, 4, 5, 6] rfl
  refine lv_goto (tgt := 1045) hx hb dL_law_738 (by decide) ?_
  refine W.widen (k := cells + 8) (n := slots + 2100) (by omega) (by omega) ?_
  exact kk H locs ls ad lc mc bc (c_X4_setQuota_N lc mc bc N (c_X3_setQuota_G lc mc bc N G (xs (i + 1)) (xs (i + 2))) (xs (i + 1)) (xs (i + 2))) (c_X4_setQuota_G lc mc bc N (c_X3_setQuota_G lc mc bc N G (xs (i + 1)) (xs (i + 2))) (xs (i + 1)) (xs (i + 2))) (scase (c_X3_setQuota lc mc bc N G (xs (i + 1)) (xs (i + 2))) (fun _ => o) (fun x0 => vp_updL o 0 x0.toInt64)) d hJ hW hS hl
set_option maxRecDepth 100000 in
set_option maxHeartbeats 4000000 in
theorem lc_17 : mt_LC 741 := by
  intro l hlt p e s m args below meth c w0 S z g hC b L xs hX hbl hbA hL Q ad lc mc bc N G o d J i hi H locs cells slots ls hcr hsl hW hS hl kk
  have hx := S.1
  have hb := S.2.1
  have hl : lv_has ls 9 [(0, .ref b), (1, .ref (ad 0)), (2, .ref (ad 200)), (3, .ref (ad 300)), (4, .ref (ad 301)), (5, .int (nI i))] := hl
  refine lv_aload_n hx hb dL_law_741 rfl (lv_at hl 1 rfl) ?_
  refine lw_arg (kn := 1) hx hb hX hbl hbA hS hL (by omega) (lv_at hl 0 rfl) (lv_at hl 5 rfl) dL_law_742 dL_law_743 dL_law_745 dL_law_746 dL_law_747 (by decide) ?_
  refine lv_aload_n hx hb dL_law_748 rfl (lv_at hl 3 rfl) ?_
  refine mt_cL (As := [.ref (ad 0), .int (xs (i + 1)), .ref (ad 300)]) (rest := []) S pL_used mw_ml_L_165 (k_L_used l hlt g z ad lc mc bc N G o d J.1 J.2.1 J.2.2.1 (xs (i + 1))) hC hW hS rfl hl.1 rfl (Nat.le_of_ble_eq_true rfl) dL_law_749 ⟨(Nat.le_of_ble_eq_true rfl), (Nat.le_of_ble_eq_true rfl)⟩ ⟨by show _ ≤ 603072; omega, by show _ ≤ 7219306; omega⟩ (fun H locs a1 hcc hW hS => ?_)
  rw [show a1 = ad from hcc] at hW
  have hW := hW.to wc_sl
  refine lv_istore (lv' := [(6, .int (scase (c_X3_used lc mc bc N G (xs (i + 1))) (fun E => if E = "java/lang/IllegalArgumentException" then 1 else 0) (fun _ => 0))), (0, .ref b), (1, .ref (ad 0)), (2, .ref (ad 200)), (3, .ref (ad 300)), (4, .ref (ad 301)), (5, .int (nI i))]) hx hb dL_law_752 hl (by decide) rfl (fun ls hl => ?_)
  have hl : lv_has ls 9 [(0, .ref b), (1, .ref (ad 0)), (2, .ref (ad 200)), (3, .ref (ad 300)), (4, .ref (ad 301)), (5, .int (nI i))] := lv_sub hl [1, 2, 3, 4, 5, 6] rfl
  obtain ⟨hM, hJ⟩ := sj_used J (xs (i + 1))
  refine lv_aload_n hx hb dL_law_754 rfl (lv_at hl 2 rfl) ?_
  refine lw_arg (kn := 1) hx hb hX hbl hbA hS hL (by omega) (lv_at hl 0 rfl) (lv_at hl 5 rfl) dL_law_755 dL_law_756 dL_law_758 dL_law_759 dL_law_760 (by decide) ?_
  refine mt_cV1 (As := [.int (xs (i + 1))]) (rest := []) S pv_X4_used_ mw_ml_L_167 (k_X4_used_ l hlt g z ad lc mc bc N G (scase (c_X3_used lc mc bc N G (xs (i + 1))) (fun _ => o) (fun x0 => vp_updL o 0 x0.toInt64)) d hJ.1 hJ.2.1 hJ.2.2.1 (xs (i + 1))) hC hW hS wc_200 rfl rfl rfl hl.1 rfl (Nat.le_of_ble_eq_true rfl) dL_law_761 ⟨(Nat.le_of_ble_eq_true rfl), (Nat.le_of_ble_eq_true rfl)⟩ ⟨by show _ ≤ 603072; omega, by show _ ≤ 7219306; omega⟩ rfl (fun H locs hW hS => ?_)
  refine lv_istore (lv' := [(7, .int (c_X4_used_ lc mc bc N G (xs (i + 1)))), (0, .ref b), (1, .ref (ad 0)), (2, .ref (ad 200)), (3, .ref (ad 300)), (4, .ref (ad 301)), (5, .int (nI i))]) hx hb dL_law_764 hl (by decide) rfl (fun ls hl => ?_)
  have hl : lv_has ls 9 [(0, .ref b), (1, .ref (ad 0)), (2, .ref (ad 200)), (3, .ref (ad 300)), (4, .ref (ad 301)), (5, .int (nI i))] := lv_sub hl [1, 2, 3, 4, 5, 6] rfl
  refine lv_goto (tgt := 1045) hx hb dL_law_766 (by decide) ?_
  refine W.widen (k := cells + 8) (n := slots + 2100) (by omega) (by omega) ?_
  exact kk H locs ls ad lc mc bc (c_X4_used__N lc mc bc N G (xs (i + 1))) G (scase (c_X3_used lc mc bc N G (xs (i + 1))) (fun _ => o) (fun x0 => vp_updL o 0 x0.toInt64)) d hJ hW hS hl
set_option maxRecDepth 100000 in
set_option maxHeartbeats 4000000 in
theorem lc_18 : mt_LC 769 := by
  intro l hlt p e s m args below meth c w0 S z g hC b L xs hX hbl hbA hL Q ad lc mc bc N G o d J i hi H locs cells slots ls hcr hsl hW hS hl kk
  have hx := S.1
  have hb := S.2.1
  have hl : lv_has ls 9 [(0, .ref b), (1, .ref (ad 0)), (2, .ref (ad 200)), (3, .ref (ad 300)), (4, .ref (ad 301)), (5, .int (nI i))] := hl
  refine lv_aload_n hx hb dL_law_769 rfl (lv_at hl 1 rfl) ?_
  refine lw_arg (kn := 1) hx hb hX hbl hbA hS hL (by omega) (lv_at hl 0 rfl) (lv_at hl 5 rfl) dL_law_770 dL_law_771 dL_law_773 dL_law_774 dL_law_775 (by decide) ?_
  refine lv_aload_n hx hb dL_law_776 rfl (lv_at hl 3 rfl) ?_
  refine mt_cL (As := [.ref (ad 0), .int (xs (i + 1)), .ref (ad 300)]) (rest := []) S pL_usedByLayers mw_ml_L_168 (k_L_usedByLayers l hlt g z ad lc mc bc N G o d J.1 J.2.1 J.2.2.1 (xs (i + 1))) hC hW hS rfl hl.1 rfl (Nat.le_of_ble_eq_true rfl) dL_law_777 ⟨(Nat.le_of_ble_eq_true rfl), (Nat.le_of_ble_eq_true rfl)⟩ ⟨by show _ ≤ 603072; omega, by show _ ≤ 7219306; omega⟩ (fun H locs a1 hcc hW hS => ?_)
  rw [show a1 = ad from hcc] at hW
  have hW := hW.to wc_sl
  refine lv_istore (lv' := [(6, .int (scase (c_X3_usedByLayers lc mc bc N G (xs (i + 1))) (fun E => if E = "java/lang/IllegalArgumentException" then 1 else 0) (fun _ => 0))), (0, .ref b), (1, .ref (ad 0)), (2, .ref (ad 200)), (3, .ref (ad 300)), (4, .ref (ad 301)), (5, .int (nI i))]) hx hb dL_law_780 hl (by decide) rfl (fun ls hl => ?_)
  have hl : lv_has ls 9 [(0, .ref b), (1, .ref (ad 0)), (2, .ref (ad 200)), (3, .ref (ad 300)), (4, .ref (ad 301)), (5, .int (nI i))] := lv_sub hl [1, 2, 3, 4, 5, 6] rfl
  obtain ⟨hM, hJ⟩ := sj_usedByLayers J (xs (i + 1))
  refine lv_aload_n hx hb dL_law_782 rfl (lv_at hl 2 rfl) ?_
  refine lw_arg (kn := 1) hx hb hX hbl hbA hS hL (by omega) (lv_at hl 0 rfl) (lv_at hl 5 rfl) dL_law_783 dL_law_784 dL_law_786 dL_law_787 dL_law_788 (by decide) ?_
  refine mt_cV1 (As := [.int (xs (i + 1))]) (rest := []) S pv_X4_usedByLayers mw_ml_L_170 (k_X4_usedByLayers l hlt g z ad lc mc bc N G (scase (c_X3_usedByLayers lc mc bc N G (xs (i + 1))) (fun _ => o) (fun x0 => vp_updL o 0 x0.toInt64)) d hJ.1 hJ.2.1 hJ.2.2.1 (xs (i + 1))) hC hW hS wc_200 rfl rfl rfl hl.1 rfl (Nat.le_of_ble_eq_true rfl) dL_law_789 ⟨(Nat.le_of_ble_eq_true rfl), (Nat.le_of_ble_eq_true rfl)⟩ ⟨by show _ ≤ 603072; omega, by show _ ≤ 7219306; omega⟩ rfl (fun H locs hW hS => ?_)
  refine lv_istore (lv' := [(7, .int (c_X4_usedByLayers lc mc bc N G (xs (i + 1)))), (0, .ref b), (1, .ref (ad 0)), (2, .ref (ad 200)), (3, .ref (ad 300)), (4, .ref (ad 301)), (5, .int (nI i))]) hx hb dL_law_792 hl (by decide) rfl (fun ls hl => ?_)
  have hl : lv_has ls 9 [(0, .ref b), (1, .ref (ad 0)), (2, .ref (ad 200)), (3, .ref (ad 300)), (4, .ref (ad 301)), (5, .int (nI i))] := lv_sub hl [1, 2, 3, 4, 5, 6] rfl
  refine lv_goto (tgt := 1045) hx hb dL_law_794 (by decide) ?_
  refine W.widen (k := cells + 8) (n := slots + 2100) (by omega) (by omega) ?_
  exact kk H locs ls ad lc mc bc (c_X4_usedByLayers_N lc mc bc N G (xs (i + 1))) G (scase (c_X3_usedByLayers lc mc bc N G (xs (i + 1))) (fun _ => o) (fun x0 => vp_updL o 0 x0.toInt64)) d hJ hW hS hl
set_option maxRecDepth 100000 in
set_option maxHeartbeats 4000000 in
theorem lc_19 : mt_LC 797 := by
  intro l hlt p e s m args below meth c w0 S z g hC b L xs hX hbl hbA hL Q ad lc mc bc N G o d J i hi H locs cells slots ls hcr hsl hW hS hl kk
  have hx := S.1
  have hb := S.2.1
  have hl : lv_has ls 9 [(0, .ref b), (1, .ref (ad 0)), (2, .ref (ad 200)), (3, .ref (ad 300)), (4, .ref (ad 301)), (5, .int (nI i))] := hl
  refine lv_aload_n hx hb dL_law_797 rfl (lv_at hl 1 rfl) ?_
  refine mt_cV1 (As := []) (rest := []) S pv_X3_hidden mw_ml_L_171 (k_X3_hidden l hlt g z ad lc mc bc N G o d J.1 J.2.1 J.2.2.1) hC hW hS wc_0 rfl rfl rfl hl.1 rfl (Nat.le_of_ble_eq_true rfl) dL_law_798 ⟨(Nat.le_of_ble_eq_true rfl), (Nat.le_of_ble_eq_true rfl)⟩ ⟨by show _ ≤ 603072; omega, by show _ ≤ 7219306; omega⟩ rfl (fun H locs hW hS => ?_)
  obtain ⟨hM, hJ⟩ := sj_hidden J 
  refine lv_pop hx hb dL_law_801 rfl ?_
  refine lv_aload_n hx hb dL_law_802 rfl (lv_at hl 2 rfl) ?_
  refine mt_cV1 (As := []) (rest := []) S pv_X4_hidden mw_ml_L_174 (k_X4_hidden l hlt g z ad lc mc bc N (c_X3_hidden_G lc mc bc N G) o d hJ.1 hJ.2.1 hJ.2.2.1 hM) hC hW hS wc_200 rfl rfl rfl hl.1 rfl (Nat.le_of_ble_eq_true rfl) dL_law_803 ⟨(Nat.le_of_ble_eq_true rfl), (Nat.le_of_ble_eq_true rfl)⟩ ⟨by show _ ≤ 603072; omega, by show _ ≤ 7219306; omega⟩ rfl (fun H locs hW hS => ?_)
  refine lv_pop hx hb dL_law_806 rfl ?_
  refine lv_goto (tgt := 1045) hx hb dL_law_807 (by decide) ?_
  refine W.widen (k := cells + 8) (n := slots + 2100) (by omega) (by omega) ?_
  exact kk H locs ls ad lc mc bc (c_X4_hidden_N lc mc bc N (c_X3_hidden_G lc mc bc N G)) (c_X3_hidden_G lc mc bc N G) o d hJ hW hS hl
set_option maxRecDepth 100000 in
set_option maxHeartbeats 4000000 in
theorem lc_20 : mt_LC 810 := by
  intro l hlt p e s m args below meth c w0 S z g hC b L xs hX hbl hbA hL Q ad lc mc bc N G o d J i hi H locs cells slots ls hcr hsl hW hS hl kk
  have hx := S.1
  have hb := S.2.1
  have hl : lv_has ls 9 [(0, .ref b), (1, .ref (ad 0)), (2, .ref (ad 200)), (3, .ref (ad 300)), (4, .ref (ad 301)), (5, .int (nI i))] := hl
  refine lv_aload_n hx hb dL_law_810 rfl (lv_at hl 1 rfl) ?_
  refine mt_cV1 (As := []) (rest := []) S pv_X3_copies mw_ml_L_175 (k_X3_copies l hlt g z ad lc mc bc N G o d J.1 J.2.1 J.2.2.1) hC hW hS wc_0 rfl rfl rfl hl.1 rfl (Nat.le_of_ble_eq_true rfl) dL_law_811 ⟨(Nat.le_of_ble_eq_true rfl), (Nat.le_of_ble_eq_true rfl)⟩ ⟨by show _ ≤ 603072; omega, by show _ ≤ 7219306; omega⟩ rfl (fun H locs hW hS => ?_)
  obtain ⟨hM, hJ⟩ := sj_copies J 
  refine lv_pop hx hb dL_law_814 rfl ?_
  refine lv_aload_n hx hb dL_law_815 rfl (lv_at hl 2 rfl) ?_
  refine mt_cV1 (As := []) (rest := []) S pv_X4_copies mw_ml_L_178 (k_X4_copies l hlt g z ad lc mc bc N G o d hJ.1 hJ.2.1 hJ.2.2.1 ) hC hW hS wc_200 rfl rfl rfl hl.1 rfl (Nat.le_of_ble_eq_true rfl) dL_law_816 ⟨(Nat.le_of_ble_eq_true rfl), (Nat.le_of_ble_eq_true rfl)⟩ ⟨by show _ ≤ 603072; omega, by show _ ≤ 7219306; omega⟩ rfl (fun H locs hW hS => ?_)
  refine lv_pop hx hb dL_law_819 rfl ?_
  refine lv_goto (tgt := 1045) hx hb dL_law_820 (by decide) ?_
  refine W.widen (k := cells + 8) (n := slots + 2100) (by omega) (by omega) ?_
  exact kk H locs ls ad lc mc bc (c_X4_copies_N lc mc bc N G) G o d hJ hW hS hl
set_option maxRecDepth 100000 in
set_option maxHeartbeats 4000000 in
theorem lc_21 : mt_LC 823 := by
  intro l hlt p e s m args below meth c w0 S z g hC b L xs hX hbl hbA hL Q ad lc mc bc N G o d J i hi H locs cells slots ls hcr hsl hW hS hl kk
  have hx := S.1
  have hb := S.2.1
  have hl : lv_has ls 9 [(0, .ref b), (1, .ref (ad 0)), (2, .ref (ad 200)), (3, .ref (ad 300)), (4, .ref (ad 301)), (5, .int (nI i))] := hl
  refine lv_aload_n hx hb dL_law_823 rfl (lv_at hl 1 rfl) ?_
  refine lw_arg (kn := 1) hx hb hX hbl hbA hS hL (by omega) (lv_at hl 0 rfl) (lv_at hl 5 rfl) dL_law_824 dL_law_825 dL_law_827 dL_law_828 dL_law_829 (by decide) ?_
  refine lv_aload_n hx hb dL_law_830 rfl (lv_at hl 3 rfl) ?_
  refine mt_cL (As := [.ref (ad 0), .int (xs (i + 1)), .ref (ad 300)]) (rest := []) S pL_whiteouts mw_ml_L_179 (k_L_whiteouts l hlt g z ad lc mc bc N G o d J.1 J.2.1 J.2.2.1 (xs (i + 1))) hC hW hS rfl hl.1 rfl (Nat.le_of_ble_eq_true rfl) dL_law_831 ⟨(Nat.le_of_ble_eq_true rfl), (Nat.le_of_ble_eq_true rfl)⟩ ⟨by show _ ≤ 603072; omega, by show _ ≤ 7219306; omega⟩ (fun H locs a1 hcc hW hS => ?_)
  rw [show a1 = ad from hcc] at hW
  have hW := hW.to wc_sl
  refine lv_istore (lv' := [(6, .int (scase (c_X3_whiteouts lc mc bc N G (xs (i + 1))) (fun E => if E = "java/lang/IndexOutOfBoundsException" then 1 else 0) (fun _ => 0))), (0, .ref b), (1, .ref (ad 0)), (2, .ref (ad 200)), (3, .ref (ad 300)), (4, .ref (ad 301)), (5, .int (nI i))]) hx hb dL_law_834 hl (by decide) rfl (fun ls hl => ?_)
  have hl : lv_has ls 9 [(0, .ref b), (1, .ref (ad 0)), (2, .ref (ad 200)), (3, .ref (ad 300)), (4, .ref (ad 301)), (5, .int (nI i))] := lv_sub hl [1, 2, 3, 4, 5, 6] rfl
  obtain ⟨hM, hJ⟩ := sj_whiteouts J (xs (i + 1))
  refine lv_aload_n hx hb dL_law_836 rfl (lv_at hl 2 rfl) ?_
  refine lw_arg (kn := 1) hx hb hX hbl hbA hS hL (by omega) (lv_at hl 0 rfl) (lv_at hl 5 rfl) dL_law_837 dL_law_838 dL_law_840 dL_law_841 dL_law_842 (by decide) ?_
  refine mt_cV1 (As := [.int (xs (i + 1))]) (rest := []) S pv_X4_whiteouts mw_ml_L_181 (k_X4_whiteouts l hlt g z ad lc mc bc N G (scase (c_X3_whiteouts lc mc bc N G (xs (i + 1))) (fun _ => o) (fun x0 => vp_updL o 0 x0.toInt64)) d hJ.1 hJ.2.1 hJ.2.2.1 (xs (i + 1)) hM) hC hW hS wc_200 rfl rfl rfl hl.1 rfl (Nat.le_of_ble_eq_true rfl) dL_law_843 ⟨(Nat.le_of_ble_eq_true rfl), (Nat.le_of_ble_eq_true rfl)⟩ ⟨by show _ ≤ 603072; omega, by show _ ≤ 7219306; omega⟩ rfl (fun H locs hW hS => ?_)
  refine lv_istore (lv' := [(7, .int (c_X4_whiteouts lc mc bc N G (xs (i + 1)))), (0, .ref b), (1, .ref (ad 0)), (2, .ref (ad 200)), (3, .ref (ad 300)), (4, .ref (ad 301)), (5, .int (nI i))]) hx hb dL_law_846 hl (by decide) rfl (fun ls hl => ?_)
  have hl : lv_has ls 9 [(0, .ref b), (1, .ref (ad 0)), (2, .ref (ad 200)), (3, .ref (ad 300)), (4, .ref (ad 301)), (5, .int (nI i))] := lv_sub hl [1, 2, 3, 4, 5, 6] rfl
  refine lv_goto (tgt := 1045) hx hb dL_law_848 (by decide) ?_
  refine W.widen (k := cells + 8) (n := slots + 2100) (by omega) (by omega) ?_
  exact kk H locs ls ad lc mc bc (c_X4_whiteouts_N lc mc bc N G (xs (i + 1))) G (scase (c_X3_whiteouts lc mc bc N G (xs (i + 1))) (fun _ => o) (fun x0 => vp_updL o 0 x0.toInt64)) d hJ hW hS hl
set_option maxRecDepth 100000 in
set_option maxHeartbeats 4000000 in
theorem lc_22 : mt_LC 851 := by
  intro l hlt p e s m args below meth c w0 S z g hC b L xs hX hbl hbA hL Q ad lc mc bc N G o d J i hi H locs cells slots ls hcr hsl hW hS hl kk
  have hx := S.1
  have hb := S.2.1
  have hl : lv_has ls 9 [(0, .ref b), (1, .ref (ad 0)), (2, .ref (ad 200)), (3, .ref (ad 300)), (4, .ref (ad 301)), (5, .int (nI i))] := hl
  refine lv_aload_n hx hb dL_law_851 rfl (lv_at hl 1 rfl) ?_
  refine lw_arg (kn := 1) hx hb hX hbl hbA hS hL (by omega) (lv_at hl 0 rfl) (lv_at hl 5 rfl) dL_law_852 dL_law_853 dL_law_855 dL_law_856 dL_law_857 (by decide) ?_
  refine lw_bool hx hb dL_law_858 dL_law_861 dL_law_862 dL_law_865 ?_
  refine lv_aload_n hx hb dL_law_866 rfl (lv_at hl 3 rfl) ?_
  refine mt_cL (As := [.ref (ad 0), .int (if xs (i + 1) = 0 then 0 else 1), .ref (ad 300)]) (rest := []) S pL_backUp mw_ml_L_182 (k_L_backUp l hlt g z ad lc mc bc N G o d J.1 J.2.1 J.2.2.1 (if xs (i + 1) = 0 then 0 else 1) b01 J.2.2.2.1) hC hW hS rfl hl.1 rfl (Nat.le_of_ble_eq_true rfl) dL_law_867 ⟨(Nat.le_of_ble_eq_true rfl), (Nat.le_of_ble_eq_true rfl)⟩ ⟨by show _ ≤ 603072; omega, by show _ ≤ 7219306; omega⟩ (fun H locs a1 hcc hW hS => ?_)
  have ea0 : a1 0 = ad 0 := hcc 0 (by have := J.1; have := J.2.1; have := J.2.2.1; omega)
  have ea200 : a1 200 = ad 200 := hcc 200 (by have := J.1; have := J.2.1; have := J.2.2.1; omega)
  have ea300 : a1 300 = ad 300 := hcc 300 (by have := J.1; have := J.2.1; have := J.2.2.1; omega)
  have ea301 : a1 301 = ad 301 := hcc 301 (by have := J.1; have := J.2.1; have := J.2.2.1; omega)
  rw [← ea0, ← ea200, ← ea300, ← ea301] at hl
  refine lv_istore (lv' := [(6, .int (scase (c_X3_backUp lc mc bc N G (if xs (i + 1) = 0 then 0 else 1)) (fun E => if E = "java/lang/IllegalStateException" then 1 else 0) (fun _ => 0))), (0, .ref b), (1, .ref (a1 0)), (2, .ref (a1 200)), (3, .ref (a1 300)), (4, .ref (a1 301)), (5, .int (nI i))]) hx hb dL_law_870 hl (by decide) rfl (fun ls hl => ?_)
  have hl : lv_has ls 9 [(0, .ref b), (1, .ref (a1 0)), (2, .ref (a1 200)), (3, .ref (a1 300)), (4, .ref (a1 301)), (5, .int (nI i))] := lv_sub hl [1, 2, 3, 4, 5, 6] rfl
  rcases hq : c_X3_backUp lc mc bc N G (if xs (i + 1) = 0 then 0 else 1) with E | x0
  · have hW := hW.to (w1 := mt_wc g a1 lc mc bc N G o d) (by rw [hq]; rfl)
    obtain ⟨hM, hJ⟩ := sj_backUp_l J (if xs (i + 1) = 0 then 0 else 1) b01 hq
    refine lv_aload_n hx hb dL_law_872 rfl (lv_at hl 2 rfl) ?_
    refine lw_arg (kn := 1) hx hb hX hbl hbA hS hL (by omega) (lv_at hl 0 rfl) (lv_at hl 5 rfl) dL_law_873 dL_law_874 dL_law_876 dL_law_877 dL_law_878 (by decide) ?_
    refine lw_bool hx hb dL_law_879 dL_law_882 dL_law_883 dL_law_886 ?_
    refine mt_cV1 (As := [.int (if xs (i + 1) = 0 then 0 else 1)]) (rest := []) S pv_X4_backUp mw_ml_L_185 (k_X4_backUp l hlt g z a1 lc mc bc N G o d hJ.1 hJ.2.1 hJ.2.2.1 (if xs (i + 1) = 0 then 0 else 1) hM b01) hC hW hS wc_200 rfl rfl rfl hl.1 rfl (Nat.le_of_ble_eq_true rfl) dL_law_887 ⟨(Nat.le_of_ble_eq_true rfl), (Nat.le_of_ble_eq_true rfl)⟩ ⟨by show _ ≤ 603072; omega, by show _ ≤ 7219306; omega⟩ rfl (fun H locs hW hS => ?_)
    refine lv_istore (lv' := [(7, .int (c_X4_backUp lc mc bc N G (if xs (i + 1) = 0 then 0 else 1))), (0, .ref b), (1, .ref (a1 0)), (2, .ref (a1 200)), (3, .ref (a1 300)), (4, .ref (a1 301)), (5, .int (nI i))]) hx hb dL_law_890 hl (by decide) rfl (fun ls hl => ?_)
    have hl : lv_has ls 9 [(0, .ref b), (1, .ref (a1 0)), (2, .ref (a1 200)), (3, .ref (a1 300)), (4, .ref (a1 301)), (5, .int (nI i))] := lv_sub hl [1, 2, 3, 4, 5, 6] rfl
    refine lv_goto (tgt := 1045) hx hb dL_law_892 (by decide) ?_
    refine W.widen (k := cells + 8) (n := slots + 2100) (by omega) (by omega) ?_
    exact kk H locs ls a1 lc mc bc (c_X4_backUp_N lc mc bc N G (if xs (i + 1) = 0 then 0 else 1)) (c_X4_backUp_G lc mc bc N G (if xs (i + 1) = 0 then 0 else 1)) o d hJ hW hS hl
  · have hW := hW.to (w1 := mt_wc g a1 lc mc (bc + 1) (mt_nb N bc (if xs (i + 1) = 0 then 0 else 1)) (mt_gb G bc (fun j => if j < c_bn (if xs (i + 1) = 0 then 0 else 1) then c_X3_sizeNow lc mc bc N G (if xs (i + 1) = 0 then 0 else 1) (nI j) else 0)) (vp_updL o 0 x0.toInt64) d) (by rw [hq]; rfl)
    obtain ⟨hM, hJ⟩ := sj_backUp_r J (if xs (i + 1) = 0 then 0 else 1) b01 hq
    refine lv_aload_n hx hb dL_law_872 rfl (lv_at hl 2 rfl) ?_
    refine lw_arg (kn := 1) hx hb hX hbl hbA hS hL (by omega) (lv_at hl 0 rfl) (lv_at hl 5 rfl) dL_law_873 dL_law_874 dL_law_876 dL_law_877 dL_law_878 (by decide) ?_
    refine lw_bool hx hb dL_law_879 dL_law_882 dL_law_883 dL_law_886 ?_
    refine mt_cV1 (As := [.int (if xs (i + 1) = 0 then 0 else 1)]) (rest := []) S pv_X4_backUp mw_ml_L_185 (k_X4_backUp l hlt g z a1 lc mc (bc + 1) (mt_nb N bc (if xs (i + 1) = 0 then 0 else 1)) (mt_gb G bc (fun j => if j < c_bn (if xs (i + 1) = 0 then 0 else 1) then c_X3_sizeNow lc mc bc N G (if xs (i + 1) = 0 then 0 else 1) (nI j) else 0)) (vp_updL o 0 x0.toInt64) d hJ.1 hJ.2.1 hJ.2.2.1 (if xs (i + 1) = 0 then 0 else 1) hM b01) hC hW hS wc_200 rfl rfl rfl hl.1 rfl (Nat.le_of_ble_eq_true rfl) dL_law_887 ⟨(Nat.le_of_ble_eq_true rfl), (Nat.le_of_ble_eq_true rfl)⟩ ⟨by show _ ≤ 603072; omega, by show _ ≤ 7219306; omega⟩ rfl (fun H locs hW hS => ?_)
    refine lv_istore (lv' := [(7, .int (c_X4_backUp lc mc (bc + 1) (mt_nb N bc (if xs (i + 1) = 0 then 0 else 1)) (mt_gb G bc (fun j => if j < c_bn (if xs (i + 1) = 0 then 0 else 1) then c_X3_sizeNow lc mc bc N G (if xs (i + 1) = 0 then 0 else 1) (nI j) else 0)) (if xs (i + 1) = 0 then 0 else 1))), (0, .ref b), (1, .ref (a1 0)), (2, .ref (a1 200)), (3, .ref (a1 300)), (4, .ref (a1 301)), (5, .int (nI i))]) hx hb dL_law_890 hl (by decide) rfl (fun ls hl => ?_)
    have hl : lv_has ls 9 [(0, .ref b), (1, .ref (a1 0)), (2, .ref (a1 200)), (3, .ref (a1 300)), (4, .ref (a1 301)), (5, .int (nI i))] := lv_sub hl [1, 2, 3, 4, 5, 6] rfl
    refine lv_goto (tgt := 1045) hx hb dL_law_892 (by decide) ?_
    refine W.widen (k := cells + 8) (n := slots + 2100) (by omega) (by omega) ?_
    exact kk H locs ls a1 lc mc (bc + 1) (c_X4_backUp_N lc mc (bc + 1) (mt_nb N bc (if xs (i + 1) = 0 then 0 else 1)) (mt_gb G bc (fun j => if j < c_bn (if xs (i + 1) = 0 then 0 else 1) then c_X3_sizeNow lc mc bc N G (if xs (i + 1) = 0 then 0 else 1) (nI j) else 0)) (if xs (i + 1) = 0 then 0 else 1)) (c_X4_backUp_G lc mc (bc + 1) (mt_nb N bc (if xs (i + 1) = 0 then 0 else 1)) (mt_gb G bc (fun j => if j < c_bn (if xs (i + 1) = 0 then 0 else 1) then c_X3_sizeNow lc mc bc N G (if xs (i + 1) = 0 then 0 else 1) (nI j) else 0)) (if xs (i + 1) = 0 then 0 else 1)) (vp_updL o 0 x0.toInt64) d hJ hW hS hl
set_option maxRecDepth 100000 in
set_option maxHeartbeats 4000000 in
theorem lc_23 : mt_LC 895 := by
  intro l hlt p e s m args below meth c w0 S z g hC b L xs hX hbl hbA hL Q ad lc mc bc N G o d J i hi H locs cells slots ls hcr hsl hW hS hl kk
  have hx := S.1
  have hb := S.2.1
  have hl : lv_has ls 9 [(0, .ref b), (1, .ref (ad 0)), (2, .ref (ad 200)), (3, .ref (ad 300)), (4, .ref (ad 301)), (5, .int (nI i))] := hl
  refine lv_aload_n hx hb dL_law_895 rfl (lv_at hl 1 rfl) ?_
  refine lw_arg (kn := 1) hx hb hX hbl hbA hS hL (by omega) (lv_at hl 0 rfl) (lv_at hl 5 rfl) dL_law_896 dL_law_897 dL_law_899 dL_law_900 dL_law_901 (by decide) ?_
  refine lv_aload_n hx hb dL_law_902 rfl (lv_at hl 3 rfl) ?_
  refine mt_cL (As := [.ref (ad 0), .int (xs (i + 1)), .ref (ad 300)]) (rest := []) S pL_bytes mw_ml_L_186 (k_L_bytes l hlt g z ad lc mc bc N G o d J.1 J.2.1 J.2.2.1 (xs (i + 1))) hC hW hS rfl hl.1 rfl (Nat.le_of_ble_eq_true rfl) dL_law_903 ⟨(Nat.le_of_ble_eq_true rfl), (Nat.le_of_ble_eq_true rfl)⟩ ⟨by show _ ≤ 603072; omega, by show _ ≤ 7219306; omega⟩ (fun H locs a1 hcc hW hS => ?_)
  rw [show a1 = ad from hcc] at hW
  have hW := hW.to wc_sl
  refine lv_istore (lv' := [(6, .int (scase (c_X3_bytes lc mc bc N G (xs (i + 1))) (fun E => if E = "java/lang/IndexOutOfBoundsException" then 1 else 0) (fun _ => 0))), (0, .ref b), (1, .ref (ad 0)), (2, .ref (ad 200)), (3, .ref (ad 300)), (4, .ref (ad 301)), (5, .int (nI i))]) hx hb dL_law_906 hl (by decide) rfl (fun ls hl => ?_)
  have hl : lv_has ls 9 [(0, .ref b), (1, .ref (ad 0)), (2, .ref (ad 200)), (3, .ref (ad 300)), (4, .ref (ad 301)), (5, .int (nI i))] := lv_sub hl [1, 2, 3, 4, 5, 6] rfl
  obtain ⟨hM, hJ⟩ := sj_bytes J (xs (i + 1))
  refine lv_aload_n hx hb dL_law_908 rfl (lv_at hl 2 rfl) ?_
  refine lw_arg (kn := 1) hx hb hX hbl hbA hS hL (by omega) (lv_at hl 0 rfl) (lv_at hl 5 rfl) dL_law_909 dL_law_910 dL_law_912 dL_law_913 dL_law_914 (by decide) ?_
  refine mt_cV1 (As := [.int (xs (i + 1))]) (rest := []) S pv_X4_bytes mw_ml_L_188 (k_X4_bytes l hlt g z ad lc mc bc N G (scase (c_X3_bytes lc mc bc N G (xs (i + 1))) (fun _ => o) (fun x0 => vp_updL o 0 x0.toInt64)) d hJ.1 hJ.2.1 hJ.2.2.1 (xs (i + 1)) hM) hC hW hS wc_200 rfl rfl rfl hl.1 rfl (Nat.le_of_ble_eq_true rfl) dL_law_915 ⟨(Nat.le_of_ble_eq_true rfl), (Nat.le_of_ble_eq_true rfl)⟩ ⟨by show _ ≤ 603072; omega, by show _ ≤ 7219306; omega⟩ rfl (fun H locs hW hS => ?_)
  refine lv_istore (lv' := [(7, .int (c_X4_bytes lc mc bc N G (xs (i + 1)))), (0, .ref b), (1, .ref (ad 0)), (2, .ref (ad 200)), (3, .ref (ad 300)), (4, .ref (ad 301)), (5, .int (nI i))]) hx hb dL_law_918 hl (by decide) rfl (fun ls hl => ?_)
  have hl : lv_has ls 9 [(0, .ref b), (1, .ref (ad 0)), (2, .ref (ad 200)), (3, .ref (ad 300)), (4, .ref (ad 301)), (5, .int (nI i))] := lv_sub hl [1, 2, 3, 4, 5, 6] rfl
  refine lv_goto (tgt := 1045) hx hb dL_law_920 (by decide) ?_
  refine W.widen (k := cells + 8) (n := slots + 2100) (by omega) (by omega) ?_
  exact kk H locs ls ad lc mc bc (c_X4_bytes_N lc mc bc N G (xs (i + 1))) G (scase (c_X3_bytes lc mc bc N G (xs (i + 1))) (fun _ => o) (fun x0 => vp_updL o 0 x0.toInt64)) d hJ hW hS hl
set_option maxRecDepth 100000 in
set_option maxHeartbeats 4000000 in
theorem lc_24 : mt_LC 923 := by
  intro l hlt p e s m args below meth c w0 S z g hC b L xs hX hbl hbA hL Q ad lc mc bc N G o d J i hi H locs cells slots ls hcr hsl hW hS hl kk
  have hx := S.1
  have hb := S.2.1
  have hl : lv_has ls 9 [(0, .ref b), (1, .ref (ad 0)), (2, .ref (ad 200)), (3, .ref (ad 300)), (4, .ref (ad 301)), (5, .int (nI i))] := hl
  refine lv_aload_n hx hb dL_law_923 rfl (lv_at hl 1 rfl) ?_
  refine lw_arg (kn := 1) hx hb hX hbl hbA hS hL (by omega) (lv_at hl 0 rfl) (lv_at hl 5 rfl) dL_law_924 dL_law_925 dL_law_927 dL_law_928 dL_law_929 (by decide) ?_
  refine lv_aload_n hx hb dL_law_930 rfl (lv_at hl 3 rfl) ?_
  refine mt_cL (As := [.ref (ad 0), .int (xs (i + 1)), .ref (ad 300)]) (rest := []) S pL_differences mw_ml_L_189 (k_L_differences l hlt g z ad lc mc bc N G o d J.1 J.2.1 J.2.2.1 (xs (i + 1))) hC hW hS rfl hl.1 rfl (Nat.le_of_ble_eq_true rfl) dL_law_931 ⟨(Nat.le_of_ble_eq_true rfl), (Nat.le_of_ble_eq_true rfl)⟩ ⟨by show _ ≤ 603072; omega, by show _ ≤ 7219306; omega⟩ (fun H locs a1 hcc hW hS => ?_)
  rw [show a1 = ad from hcc] at hW
  have hW := hW.to wc_sl
  refine lv_istore (lv' := [(6, .int (scase (c_X3_differences lc mc bc N G (xs (i + 1))) (fun E => if E = "java/lang/IndexOutOfBoundsException" then 1 else 0) (fun _ => 0))), (0, .ref b), (1, .ref (ad 0)), (2, .ref (ad 200)), (3, .ref (ad 300)), (4, .ref (ad 301)), (5, .int (nI i))]) hx hb dL_law_934 hl (by decide) rfl (fun ls hl => ?_)
  have hl : lv_has ls 9 [(0, .ref b), (1, .ref (ad 0)), (2, .ref (ad 200)), (3, .ref (ad 300)), (4, .ref (ad 301)), (5, .int (nI i))] := lv_sub hl [1, 2, 3, 4, 5, 6] rfl
  obtain ⟨hM, hJ⟩ := sj_differences J (xs (i + 1))
  refine lv_aload_n hx hb dL_law_936 rfl (lv_at hl 2 rfl) ?_
  refine lw_arg (kn := 1) hx hb hX hbl hbA hS hL (by omega) (lv_at hl 0 rfl) (lv_at hl 5 rfl) dL_law_937 dL_law_938 dL_law_940 dL_law_941 dL_law_942 (by decide) ?_
  refine mt_cV1 (As := [.int (xs (i + 1))]) (rest := []) S pv_X4_differences mw_ml_L_191 (k_X4_differences l hlt g z ad lc mc bc N G (scase (c_X3_differences lc mc bc N G (xs (i + 1))) (fun _ => o) (fun x0 => vp_updL o 0 x0.toInt64)) d hJ.1 hJ.2.1 hJ.2.2.1 (xs (i + 1)) hM) hC hW hS wc_200 rfl rfl rfl hl.1 rfl (Nat.le_of_ble_eq_true rfl) dL_law_943 ⟨(Nat.le_of_ble_eq_true rfl), (Nat.le_of_ble_eq_true rfl)⟩ ⟨by show _ ≤ 603072; omega, by show _ ≤ 7219306; omega⟩ rfl (fun H locs hW hS => ?_)
  refine lv_istore (lv' := [(7, .int (c_X4_differences lc mc bc N G (xs (i + 1)))), (0, .ref b), (1, .ref (ad 0)), (2, .ref (ad 200)), (3, .ref (ad 300)), (4, .ref (ad 301)), (5, .int (nI i))]) hx hb dL_law_946 hl (by decide) rfl (fun ls hl => ?_)
  have hl : lv_has ls 9 [(0, .ref b), (1, .ref (ad 0)), (2, .ref (ad 200)), (3, .ref (ad 300)), (4, .ref (ad 301)), (5, .int (nI i))] := lv_sub hl [1, 2, 3, 4, 5, 6] rfl
  refine lv_goto (tgt := 1045) hx hb dL_law_948 (by decide) ?_
  refine W.widen (k := cells + 8) (n := slots + 2100) (by omega) (by omega) ?_
  exact kk H locs ls ad lc mc bc (c_X4_differences_N lc mc bc N G (xs (i + 1))) G (scase (c_X3_differences lc mc bc N G (xs (i + 1))) (fun _ => o) (fun x0 => vp_updL o 0 x0.toInt64)) d hJ hW hS hl
set_option maxRecDepth 100000 in
set_option maxHeartbeats 4000000 in
theorem lc_25 : mt_LC 951 := by
  intro l hlt p e s m args below meth c w0 S z g hC b L xs hX hbl hbA hL Q ad lc mc bc N G o d J i hi H locs cells slots ls hcr hsl hW hS hl kk
  have hx := S.1
  have hb := S.2.1
  have hl : lv_has ls 9 [(0, .ref b), (1, .ref (ad 0)), (2, .ref (ad 200)), (3, .ref (ad 300)), (4, .ref (ad 301)), (5, .int (nI i))] := hl
  refine lv_aload_n hx hb dL_law_951 rfl (lv_at hl 1 rfl) ?_
  refine lv_aload hx hb dL_law_952 (lv_at hl 4 rfl) ?_
  refine mt_cL (As := [.ref (ad 0), .ref (ad 301)]) (rest := []) S pL_shownShare mw_ml_L_192 (k_L_shownShare l hlt g z ad lc mc bc N G o d J.1 J.2.1 J.2.2.1 ) hC hW hS rfl hl.1 rfl (Nat.le_of_ble_eq_true rfl) dL_law_954 ⟨(Nat.le_of_ble_eq_true rfl), (Nat.le_of_ble_eq_true rfl)⟩ ⟨by show _ ≤ 603072; omega, by show _ ≤ 7219306; omega⟩ (fun H locs a1 hcc hW hS => ?_)
  rw [show a1 = ad from hcc] at hW
  have hW := hW.to wc_sd
  refine lv_istore (lv' := [(6, .int (scase (c_X3_shownShare lc mc bc N G) (fun E => if E = "java/lang/ArithmeticException" then 1 else 0) (fun _ => 0))), (0, .ref b), (1, .ref (ad 0)), (2, .ref (ad 200)), (3, .ref (ad 300)), (4, .ref (ad 301)), (5, .int (nI i))]) hx hb dL_law_957 hl (by decide) rfl (fun ls hl => ?_)
  have hl : lv_has ls 9 [(0, .ref b), (1, .ref (ad 0)), (2, .ref (ad 200)), (3, .ref (ad 300)), (4, .ref (ad 301)), (5, .int (nI i))] := lv_sub hl [1, 2, 3, 4, 5, 6] rfl
  obtain ⟨hM, hJ⟩ := sj_shownShare J 
  refine lv_aload_n hx hb dL_law_959 rfl (lv_at hl 2 rfl) ?_
  refine mt_cV1 (As := []) (rest := []) S pv_X4_shownShare mw_ml_L_195 (k_X4_shownShare l hlt g z ad lc mc bc N (c_X3_shownShare_G lc mc bc N G) o (scase (c_X3_shownShare lc mc bc N G) (fun _ => d.1) (fun x0 => va_up d.1 0 (FP.f2d x0)), d.2) hJ.1 hJ.2.1 hJ.2.2.1 hM) hC hW hS wc_200 rfl rfl rfl hl.1 rfl (Nat.le_of_ble_eq_true rfl) dL_law_960 ⟨(Nat.le_of_ble_eq_true rfl), (Nat.le_of_ble_eq_true rfl)⟩ ⟨by show _ ≤ 603072; omega, by show _ ≤ 7219306; omega⟩ rfl (fun H locs hW hS => ?_)
  refine lv_fstore (lv' := [(7, .float (c_X4_shownShare lc mc bc N (c_X3_shownShare_G lc mc bc N G))), (0, .ref b), (1, .ref (ad 0)), (2, .ref (ad 200)), (3, .ref (ad 300)), (4, .ref (ad 301)), (5, .int (nI i))]) hx hb dL_law_963 hl (by decide) rfl (fun ls hl => ?_)
  have hl : lv_has ls 9 [(0, .ref b), (1, .ref (ad 0)), (2, .ref (ad 200)), (3, .ref (ad 300)), (4, .ref (ad 301)), (5, .int (nI i))] := lv_sub hl [1, 2, 3, 4, 5, 6] rfl
  refine lv_goto (tgt := 1045) hx hb dL_law_965 (by decide) ?_
  refine W.widen (k := cells + 8) (n := slots + 2100) (by omega) (by omega) ?_
  exact kk H locs ls ad lc mc bc (c_X4_shownShare_N lc mc bc N (c_X3_shownShare_G lc mc bc N G)) (c_X3_shownShare_G lc mc bc N G) o (scase (c_X3_shownShare lc mc bc N G) (fun _ => d.1) (fun x0 => va_up d.1 0 (FP.f2d x0)), d.2) hJ hW hS hl
set_option maxRecDepth 100000 in
set_option maxHeartbeats 4000000 in
theorem lc_26 : mt_LC 968 := by
  intro l hlt p e s m args below meth c w0 S z g hC b L xs hX hbl hbA hL Q ad lc mc bc N G o d J i hi H locs cells slots ls hcr hsl hW hS hl kk
  have hx := S.1
  have hb := S.2.1
  have hl : lv_has ls 9 [(0, .ref b), (1, .ref (ad 0)), (2, .ref (ad 200)), (3, .ref (ad 300)), (4, .ref (ad 301)), (5, .int (nI i))] := hl
  refine lv_aload_n hx hb dL_law_968 rfl (lv_at hl 1 rfl) ?_
  refine lw_arg (kn := 1) hx hb hX hbl hbA hS hL (by omega) (lv_at hl 0 rfl) (lv_at hl 5 rfl) dL_law_969 dL_law_970 dL_law_972 dL_law_973 dL_law_974 (by decide) ?_
  refine lv_aload hx hb dL_law_975 (lv_at hl 4 rfl) ?_
  refine mt_cL (As := [.ref (ad 0), .int (xs (i + 1)), .ref (ad 301)]) (rest := []) S pL_meanSize mw_ml_L_196 (k_L_meanSize l hlt g z ad lc mc bc N G o d J.1 J.2.1 J.2.2.1 (xs (i + 1))) hC hW hS rfl hl.1 rfl (Nat.le_of_ble_eq_true rfl) dL_law_977 ⟨(Nat.le_of_ble_eq_true rfl), (Nat.le_of_ble_eq_true rfl)⟩ ⟨by show _ ≤ 603072; omega, by show _ ≤ 7219306; omega⟩ (fun H locs a1 hcc hW hS => ?_)
  rw [show a1 = ad from hcc] at hW
  have hW := hW.to wc_sd
  refine lv_istore (lv' := [(6, .int (scase (c_X3_meanSize lc mc bc N G (xs (i + 1))) (fun E => if E = "java/lang/IndexOutOfBoundsException" then 1 else if E = "java/lang/ArithmeticException" then 2 else 0) (fun _ => 0))), (0, .ref b), (1, .ref (ad 0)), (2, .ref (ad 200)), (3, .ref (ad 300)), (4, .ref (ad 301)), (5, .int (nI i))]) hx hb dL_law_980 hl (by decide) rfl (fun ls hl => ?_)
  obtain ⟨hM, hJ⟩ := sj_meanSize J (xs (i + 1))
  rcases hq : c_X3_meanSize lc mc bc N G (xs (i + 1)) with E | x0
  · have hW := hW.to (w1 := mt_wc g ad lc mc bc N G o d) (by rw [hq]; rfl)
    refine lv_aload_n hx hb dL_law_982 rfl (lv_at hl 3 rfl) ?_
    refine lw_arg (kn := 1) hx hb hX hbl hbA hS hL (by omega) (lv_at hl 1 rfl) (lv_at hl 6 rfl) dL_law_983 dL_law_984 dL_law_986 dL_law_987 dL_law_988 (by decide) ?_
    refine mt_cV1 (As := [.int (xs (i + 1))]) (rest := []) S pv_X4_meanSize mw_ml_L_199 (k_X4_meanSize l hlt g z ad lc mc bc N G o d hJ.1 hJ.2.1 hJ.2.2.1 (xs (i + 1)) hM) hC hW hS wc_200 rfl rfl rfl hl.1 rfl (Nat.le_of_ble_eq_true rfl) dL_law_989 ⟨(Nat.le_of_ble_eq_true rfl), (Nat.le_of_ble_eq_true rfl)⟩ ⟨by show _ ≤ 603072; omega, by show _ ≤ 7219306; omega⟩ rfl (fun H locs hW hS => ?_)
    refine lv_dstore (lv' := [(7, .double (c_X4_meanSize lc mc bc N G (xs (i + 1)))), (6, .int (scase (c_X3_meanSize lc mc bc N G (xs (i + 1))) (fun E => if E = "java/lang/IndexOutOfBoundsException" then 1 else if E = "java/lang/ArithmeticException" then 2 else 0) (fun _ => 0))), (0, .ref b), (1, .ref (ad 0)), (2, .ref (ad 200)), (3, .ref (ad 300)), (4, .ref (ad 301)), (5, .int (nI i))]) hx hb dL_law_992 hl (by decide) rfl (fun ls hl => ?_)
    refine lv_aload_n hx hb dL_law_994 rfl (lv_at hl 4 rfl) ?_
    refine mt_cV1 (As := []) (rest := []) S pv_X4_thrown mw_ml_L_200 (k_X4_thrown l hlt g z ad lc mc bc (c_X4_meanSize_N lc mc bc N G (xs (i + 1))) G o d hJ.1 hJ.2.1 hJ.2.2.1 ) hC hW hS wc_200 rfl rfl rfl hl.1 rfl (Nat.le_of_ble_eq_true rfl) dL_law_995 ⟨(Nat.le_of_ble_eq_true rfl), (Nat.le_of_ble_eq_true rfl)⟩ ⟨by show _ ≤ 603072; omega, by show _ ≤ 7219306; omega⟩ rfl (fun H locs hW hS => ?_)
    refine lv_iload hx hb dL_law_998 (lv_at hl 1 rfl) ?_
    have hc := sc_meanSize_l J (xs (i + 1)) hq
    refine lv_icmp_eq (tgt := 1005) hx hb dL_law_1000 (by decide) (fun c_1 => ?_) (fun c_1 => absurd hc.1 c_1)
    refine lv_iload hx hb dL_law_1005 (lv_at hl 1 rfl) ?_
    refine lv_if_ne (tgt := 1042) hx hb dL_law_1007 (by decide) (fun c_2 => ?_) (fun c_2 => absurd c_2 hc.2)
    refine lv_goto (tgt := 1045) hx hb dL_law_1042 (by decide) ?_
    have hl : lv_has ls 9 [(0, .ref b), (1, .ref (ad 0)), (2, .ref (ad 200)), (3, .ref (ad 300)), (4, .ref (ad 301)), (5, .int (nI i))] := lv_sub hl [2, 3, 4, 5, 6, 7] rfl
    refine W.widen (k := cells + 8) (n := slots + 2100) (by omega) (by omega) ?_
    exact kk H locs ls ad lc mc bc (c_X4_meanSize_N lc mc bc N G (xs (i + 1))) G o d hJ hW hS hl
  · have hW := hW.to (w1 := mt_wc g ad lc mc bc N G o (va_up d.1 0 x0, d.2)) (by rw [hq]; rfl)
    refine lv_aload_n hx hb dL_law_982 rfl (lv_at hl 3 rfl) ?_
    refine lw_arg (kn := 1) hx hb hX hbl hbA hS hL (by omega) (lv_at hl 1 rfl) (lv_at hl 6 rfl) dL_law_983 dL_law_984 dL_law_986 dL_law_987 dL_law_988 (by decide) ?_
    refine mt_cV1 (As := [.int (xs (i + 1))]) (rest := []) S pv_X4_meanSize mw_ml_L_199 (k_X4_meanSize l hlt g z ad lc mc bc N G o (va_up d.1 0 x0, d.2) hJ.1 hJ.2.1 hJ.2.2.1 (xs (i + 1)) hM) hC hW hS wc_200 rfl rfl rfl hl.1 rfl (Nat.le_of_ble_eq_true rfl) dL_law_989 ⟨(Nat.le_of_ble_eq_true rfl), (Nat.le_of_ble_eq_true rfl)⟩ ⟨by show _ ≤ 603072; omega, by show _ ≤ 7219306; omega⟩ rfl (fun H locs hW hS => ?_)
    refine lv_dstore (lv' := [(7, .double (c_X4_meanSize lc mc bc N G (xs (i + 1)))), (6, .int (scase (c_X3_meanSize lc mc bc N G (xs (i + 1))) (fun E => if E = "java/lang/IndexOutOfBoundsException" then 1 else if E = "java/lang/ArithmeticException" then 2 else 0) (fun _ => 0))), (0, .ref b), (1, .ref (ad 0)), (2, .ref (ad 200)), (3, .ref (ad 300)), (4, .ref (ad 301)), (5, .int (nI i))]) hx hb dL_law_992 hl (by decide) rfl (fun ls hl => ?_)
    refine lv_aload_n hx hb dL_law_994 rfl (lv_at hl 4 rfl) ?_
    refine mt_cV1 (As := []) (rest := []) S pv_X4_thrown mw_ml_L_200 (k_X4_thrown l hlt g z ad lc mc bc (c_X4_meanSize_N lc mc bc N G (xs (i + 1))) G o (va_up d.1 0 x0, d.2) hJ.1 hJ.2.1 hJ.2.2.1 ) hC hW hS wc_200 rfl rfl rfl hl.1 rfl (Nat.le_of_ble_eq_true rfl) dL_law_995 ⟨(Nat.le_of_ble_eq_true rfl), (Nat.le_of_ble_eq_true rfl)⟩ ⟨by show _ ≤ 603072; omega, by show _ ≤ 7219306; omega⟩ rfl (fun H locs hW hS => ?_)
    refine lv_iload hx hb dL_law_998 (lv_at hl 1 rfl) ?_
    have hc := sc_meanSize_r J (xs (i + 1)) hq
    refine lv_icmp_eq (tgt := 1005) hx hb dL_law_1000 (by decide) (fun c_1 => ?_) (fun c_1 => absurd hc.1 c_1)
    refine lv_iload hx hb dL_law_1005 (lv_at hl 1 rfl) ?_
    refine lv_if_ne (tgt := 1042) hx hb dL_law_1007 (by decide) (fun c_2 => absurd hc.2.1 c_2) (fun c_2 => ?_)
    refine lv_aload hx hb dL_law_1010 (lv_at hl 6 rfl) ?_
    refine lv_iconst (v := 0) hx hb dL_law_1012 (by decide) ?_
    refine mt_dald S hC hW (k := 301) rfl (vp_in_nI (Nat.zero_lt_one) (by decide)) dL_law_1013 ?_
    refine lv_dload hx hb dL_law_1014 (lv_at hl 0 rfl) ?_
    refine lv_dcmp hx hb dL_law_1016 ?_
    refine lv_if_eq (tgt := 1042) hx hb dL_law_1017 (by decide) (fun c_3 => ?_) (fun c_3 => absurd (dc_d (d1 := d.1) hc.2.2 (md_n hq)) c_3)
    refine lv_goto (tgt := 1045) hx hb dL_law_1042 (by decide) ?_
    have hl : lv_has ls 9 [(0, .ref b), (1, .ref (ad 0)), (2, .ref (ad 200)), (3, .ref (ad 300)), (4, .ref (ad 301)), (5, .int (nI i))] := lv_sub hl [2, 3, 4, 5, 6, 7] rfl
    refine W.widen (k := cells + 8) (n := slots + 2100) (by omega) (by omega) ?_
    exact kk H locs ls ad lc mc bc (c_X4_meanSize_N lc mc bc N G (xs (i + 1))) G o (va_up d.1 0 x0, d.2) hJ hW hS hl

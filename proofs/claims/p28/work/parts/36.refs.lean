section SH
variable {lc mc bc : Nat} {N G : Nat → Nat → Int32} {x : Int32}
theorem sh_s (h : ¬ c_X4_shown lc mc bc N G x = -1) : ¬ c_X4_servedBy lc mc bc N G x = -1 := by
  intro e
  unfold c_X4_shown at h
  rw [if_pos e] at h
  exact h rfl
theorem sh_at (hM : MI N G) (hx : IsP x) (h : ¬ c_X4_shown lc mc bc N G x = -1) : ∃ j, (j < 2046 ∧ c_X4_shown lc mc bc N G x = nI j) ∧ (G 201 j = 1 ∨ G 201 j = 2) := by
  have hs := sh_s h
  have hlo := lo_at hM hx hs
  have hup := up_at hM hx hs
  unfold c_X4_shown at h ⊢
  rw [if_neg hs] at h ⊢
  generalize c_X4_rank (c_X4_rest x (G 205 (c_X4_servedBy lc mc bc N G x).toNatClampNeg)) = r at *
  have key : ∀ at' : Int32, (∃ j, j < 2046 ∧ at' = nI j) → ¬ (if G 201 at'.toNatClampNeg = 1 then at' else if G 201 at'.toNatClampNeg = 2 then at' else -1) = -1 → ∃ j, (j < 2046 ∧ (if G 201 at'.toNatClampNeg = 1 then at' else if G 201 at'.toNatClampNeg = 2 then at' else -1) = nI j) ∧ (G 201 j = 1 ∨ G 201 j = 2) := by
    intro a ⟨j, hj, e⟩ hn
    subst e
    rw [nI_clamp (by omega)] at hn ⊢
    by_cases h1 : G 201 j = 1
    · rw [if_pos h1]; exact ⟨j, ⟨hj, rfl⟩, Or.inl h1⟩
    · rw [if_neg h1] at hn ⊢
      by_cases h2 : G 201 j = 2
      · rw [if_pos h2]; exact ⟨j, ⟨hj, rfl⟩, Or.inr h2⟩
      · rw [if_neg h2] at hn; exact absurd rfl hn
  by_cases h1 : c_X4_rest x (G 205 (c_X4_servedBy lc mc bc N G x).toNatClampNeg) = 0
  · rw [if_pos h1] at h; exact absurd rfl h
  · rw [if_neg h1] at h ⊢
    by_cases h2 : G 207 (c_X4_servedBy lc mc bc N G x).toNatClampNeg = -1
    · rw [if_pos h2] at h ⊢; exact key _ hlo h
    · rw [if_neg h2] at h ⊢
      by_cases h3 : G 201 (341 * G 207 (c_X4_servedBy lc mc bc N G x).toNatClampNeg + r).toNatClampNeg = 0
      · rw [if_pos h3] at h ⊢; exact key _ hlo h
      · rw [if_neg h3] at h ⊢; exact key _ (hup h2) h
theorem sh_in (hM : MI N G) (hx : IsP x) (h : ¬ c_X4_shown lc mc bc N G x = -1) : vp_in (c_X4_shown lc mc bc N G x) 2046 := by
  obtain ⟨j, h1, -⟩ := sh_at hM hx h
  exact vp_of ⟨j, h1⟩
end SH
def c_X4_isOwner (x : Int32) : Int32 := c_inI x 0 3
set_option maxRecDepth 100000 in
set_option maxHeartbeats 4000000 in
theorem k_X4_isOwner (l : Launch) (hlt : l.stackTraces = false) (g : mt_G) (z : Nat) (ad : Nat → Nat) (lc mc bc : Nat) (N G : Nat → Nat → Int32) (o : Nat → Int64) (d : mt_D) (h6 : lc ≤ 6) (h8 : mc ≤ 8) (hb6 : bc ≤ 6) (x : Int32)  : mt_K l g z yX4_isOwner cX4_isOwner 1 (some .boolean) 1 25 0 0 [.int x] (mt_wc g ad lc mc bc N G o d) ad (.inr (some (.int (c_X4_isOwner x)))) (mt_wc g ad lc mc bc N G o d) ad := by
  refine mt_ofW (by decide +kernel) (Nat.le_of_ble_eq_true rfl) ?_
  intro p e s m args below meth c S hr9 hk hnm hout hC hW hS ls hl
  have hr := hr9
  have hx := S.1
  have hb := S.2.1
  have hl : lv_has ls 1 [(0, .int (x))] := hl
  refine lv_iload_n hx hb dX4_isOwner_0 rfl (lv_at hl 0 rfl) ?_
  refine lv_i2l (v := x.toInt64) hx hb dX4_isOwner_1 rfl ?_
  refine lv_lconst (v := 0) hx hb dX4_isOwner_2 (by decide) ?_
  refine lv_ldc2 hx hb S.2.2.2.1 (S.2.2.2.2 _ (List.mem_cons_of_mem _ mw_cn_X4_102)) dX4_isOwner_3 ?_
  refine mt_cS1 (As := [.long (x.toInt64), .long (0), .long (3)]) (rest := []) S ps_X4_in mw_ml_X4_50 (k_X4_in l hlt g z ad lc mc bc N G o d h6 h8 hb6 x.toInt64 0 3) hC hW hS rfl hl.1 rfl (Nat.le_of_ble_eq_true rfl) dX4_isOwner_6 ⟨(Nat.le_of_ble_eq_true rfl), (Nat.le_of_ble_eq_true rfl)⟩ ⟨(Nat.le_of_ble_eq_true rfl), (Nat.le_of_ble_eq_true rfl)⟩ rfl (fun H locs hW hS => ?_)
  refine mt_te (y := c_inI x 0 3) (in_s (lo := 0) (hi := 3)) ?_
  exact mt_rz S hr hk (nar_b inI_b) hW hS (by rw [c_X4_isOwner]) (Nat.le_of_ble_eq_true rfl) (Nat.le_of_ble_eq_true rfl) dX4_isOwner_9
def c_X4_used_ls (G : Nat → Nat → Int32) (x : Int32) (y : Int32) : Nat → Int32
  | 0 => 0
  | k + 1 => if (G 201 k) = 1 then (if (G 202 k) = x then (if (nI k) = y then ((c_X4_used_ls G x y k) + 0) else ((c_X4_used_ls G x y k) + (G 203 k))) else ((c_X4_used_ls G x y k) + 0)) else ((c_X4_used_ls G x y k) + 0)
def c_X4_used (lc mc bc : Nat) (N G : Nat → Nat → Int32) (x : Int32) (y : Int32) : Int32 := c_X4_used_ls G x y 2046
set_option maxRecDepth 100000 in
set_option maxHeartbeats 4000000 in
theorem k_X4_used (l : Launch) (hlt : l.stackTraces = false) (g : mt_G) (z : Nat) (ad : Nat → Nat) (lc mc bc : Nat) (N G : Nat → Nat → Int32) (o : Nat → Int64) (d : mt_D) (h6 : lc ≤ 6) (h8 : mc ≤ 8) (hb6 : bc ≤ 6) (x : Int32) (y : Int32)  : mt_K l g z yX4_used cX4_used 5 (some .int) 0 0 0 0 [.ref (ad (200)), .int x, .int y] (mt_wc g ad lc mc bc N G o d) ad (.inr (some (.int (c_X4_used lc mc bc N G x y)))) (mt_wc g ad lc mc bc N G o d) ad := by
  refine mt_ofW (by decide +kernel) (Nat.le_of_ble_eq_true rfl) ?_
  intro p e s m args below meth c S hr9 hk hnm hout hC hW hS ls hl
  have hr := hr9
  have hx := S.1
  have hb := S.2.1
  have hl : lv_has ls 5 [(0, .ref (ad (200))), (1, .int (x)), (2, .int (y))] := hl
  refine lv_iconst (v := 0) hx hb dX4_used_0 (by decide) ?_
  refine lv_istore_n (lv' := [(3, .int (0)), (0, .ref (ad (200))), (1, .int (x)), (2, .int (y))]) hx hb dX4_used_1 rfl hl (by decide) rfl (fun ls hl => ?_)
  refine lv_iconst (v := 0) hx hb dX4_used_2 (by decide) ?_
  refine lv_istore (lv' := [(4, .int (0)), (3, .int (0)), (0, .ref (ad (200))), (1, .int (x)), (2, .int (y))]) hx hb dX4_used_3 hl (by decide) rfl (fun ls hl => ?_)
  have hl : lv_has ls 5 [(4, .int (nI 0)), (3, .int (c_X4_used_ls G x y 0)), (0, .ref (ad (200))), (1, .int (x)), (2, .int (y))] := lv_sub hl [0, 1, 2, 3, 4] rfl
  refine lp_up 2046 (fun k => mt_wc g ad lc mc bc N G o d) (fun k => [(4, .int (nI k)), (3, .int (c_X4_used_ls G x y k)), (0, .ref (ad (200))), (1, .int (x)), (2, .int (y))]) (fun _ => True) 0 (by omega) trivial hW hS hl (fun H locs ls hP hW hS hl => ?_) (fun k H locs ls hk0 hkn hP hW hS hl ih => ?_)
  · have hW : mt_W g z (mt_wc g ad lc mc bc N G o d) ad _ := hW
    have hl : lv_has ls 5 [(4, .int (nI 2046)), (3, .int (c_X4_used_ls G x y 2046)), (0, .ref (ad (200))), (1, .int (x)), (2, .int (y))] := hl
    refine lv_iload hx hb dX4_used_5 (lv_at hl 0 rfl) ?_
    refine lv_sipush (v := 2046) hx hb dX4_used_7 (by decide) ?_
    refine lv_icmp_ge (tgt := 61) hx hb dX4_used_10 (by decide) (fun c_1 => ?_) (fun c_1 => absurd (nI_le (a := 2046) (b := 2046) (Nat.le_refl _) (by omega)) c_1)
    refine lv_iload_n hx hb dX4_used_61 rfl (lv_at hl 1 rfl) ?_
    exact mt_ri S hr hk hW hS (by rw [c_X4_used]) (Nat.le_of_ble_eq_true rfl) (Nat.le_of_ble_eq_true rfl) dX4_used_62
  · have hW : mt_W g z (mt_wc g ad lc mc bc N G o d) ad _ := hW
    have hl : lv_has ls 5 [(4, .int (nI k)), (3, .int (c_X4_used_ls G x y k)), (0, .ref (ad (200))), (1, .int (x)), (2, .int (y))] := hl
    refine lv_iload hx hb dX4_used_5 (lv_at hl 0 rfl) ?_
    refine lv_sipush (v := 2046) hx hb dX4_used_7 (by decide) ?_
    refine lv_icmp_ge (tgt := 61) hx hb dX4_used_10 (by decide) (fun c_2 => absurd c_2 (nI_ge (a := k) (b := 2046) hkn (by omega))) (fun c_2 => ?_)
    refine lv_iload_n hx hb dX4_used_13 rfl (lv_at hl 1 rfl) ?_
    refine lv_aload_n hx hb dX4_used_14 rfl (lv_at hl 2 rfl) ?_
    refine mt_get S iw_X4 hC hW wc_200 rfl 0 (by decide) mw_fl_X4_7 rfl rfl dX4_used_15 ?_
    refine lv_iload hx hb dX4_used_18 (lv_at hl 0 rfl) ?_
    refine wk_ialn S hC hW ar_201 k rfl (by omega) (by decide) dX4_used_20 ?_
    refine lv_iconst (v := 1) hx hb dX4_used_21 (by decide) ?_
    refine lv_icmp_ne (tgt := 52) hx hb dX4_used_22 (by decide) (fun c_3 => ?_) (fun c_3 => ?_)
    · refine lv_iconst (v := 0) hx hb dX4_used_52 (by decide) ?_
      refine lv_iadd hx hb dX4_used_53 ?_
      refine lv_istore_n (lv' := [(3, .int ((c_X4_used_ls G x y k) + 0)), (4, .int (nI k)), (0, .ref (ad (200))), (1, .int (x)), (2, .int (y))]) hx hb dX4_used_54 rfl hl (by decide) rfl (fun ls hl => ?_)
      refine lv_iinc (v := nI (k + 1)) (lv' := [(4, .int (nI (k + 1))), (3, .int ((c_X4_used_ls G x y k) + 0)), (0, .ref (ad (200))), (1, .int (x)), (2, .int (y))]) hx hb dX4_used_55 hl (k := 1) rfl (nI_1 _) (by decide) rfl (fun ls hl => ?_)
      refine lv_goto (tgt := 5) hx hb dX4_used_58 (by decide) ?_
      have hl : lv_has ls 5 [(4, .int (nI (k + 1))), (3, .int (c_X4_used_ls G x y (k + 1))), (0, .ref (ad (200))), (1, .int (x)), (2, .int (y))] := by rw [show c_X4_used_ls G x y (k + 1) = (c_X4_used_ls G x y k) + 0 from (by rw [c_X4_used_ls, if_neg c_3])]; exact lv_sub hl [0, 1, 2, 3, 4] rfl
      exact ih _ _ _ trivial hW hS hl
    · refine lv_aload_n hx hb dX4_used_25 rfl (lv_at hl 2 rfl) ?_
      refine mt_get S iw_X4 hC hW wc_200 rfl 1 (by decide) mw_fl_X4_13 rfl rfl dX4_used_26 ?_
      refine lv_iload hx hb dX4_used_29 (lv_at hl 0 rfl) ?_
      refine wk_ialn S hC hW ar_202 k rfl (by omega) (by decide) dX4_used_31 ?_
      refine lv_iload_n hx hb dX4_used_32 rfl (lv_at hl 3 rfl) ?_
      refine lv_icmp_ne (tgt := 52) hx hb dX4_used_33 (by decide) (fun c_4 => ?_) (fun c_4 => ?_)
      · refine lv_iconst (v := 0) hx hb dX4_used_52 (by decide) ?_
        refine lv_iadd hx hb dX4_used_53 ?_
        refine lv_istore_n (lv' := [(3, .int ((c_X4_used_ls G x y k) + 0)), (4, .int (nI k)), (0, .ref (ad (200))), (1, .int (x)), (2, .int (y))]) hx hb dX4_used_54 rfl hl (by decide) rfl (fun ls hl => ?_)
        refine lv_iinc (v := nI (k + 1)) (lv' := [(4, .int (nI (k + 1))), (3, .int ((c_X4_used_ls G x y k) + 0)), (0, .ref (ad (200))), (1, .int (x)), (2, .int (y))]) hx hb dX4_used_55 hl (k := 1) rfl (nI_1 _) (by decide) rfl (fun ls hl => ?_)
        refine lv_goto (tgt := 5) hx hb dX4_used_58 (by decide) ?_
        have hl : lv_has ls 5 [(4, .int (nI (k + 1))), (3, .int (c_X4_used_ls G x y (k + 1))), (0, .ref (ad (200))), (1, .int (x)), (2, .int (y))] := by rw [show c_X4_used_ls G x y (k + 1) = (c_X4_used_ls G x y k) + 0 from (by rw [c_X4_used_ls, if_pos c_3, if_neg c_4])]; exact lv_sub hl [0, 1, 2, 3, 4] rfl
        exact ih _ _ _ trivial hW hS hl
      · refine lv_iload hx hb dX4_used_36 (lv_at hl 0 rfl) ?_
        refine lv_iload_n hx hb dX4_used_38 rfl (lv_at hl 4 rfl) ?_
        refine lv_icmp_eq (tgt := 52) hx hb dX4_used_39 (by decide) (fun c_5 => ?_) (fun c_5 => ?_)
        · refine lv_iconst (v := 0) hx hb dX4_used_52 (by decide) ?_
          refine lv_iadd hx hb dX4_used_53 ?_
          refine lv_istore_n (lv' := [(3, .int ((c_X4_used_ls G x y k) + 0)), (4, .int (nI k)), (0, .ref (ad (200))), (1, .int (x)), (2, .int (y))]) hx hb dX4_used_54 rfl hl (by decide) rfl (fun ls hl => ?_)
          refine lv_iinc (v := nI (k + 1)) (lv' := [(4, .int (nI (k + 1))), (3, .int ((c_X4_used_ls G x y k) + 0)), (0, .ref (ad (200))), (1, .int (x)), (2, .int (y))]) hx hb dX4_used_55 hl (k := 1) rfl (nI_1 _) (by decide) rfl (fun ls hl => ?_)
          refine lv_goto (tgt := 5) hx hb dX4_used_58 (by decide) ?_
          have hl : lv_has ls 5 [(4, .int (nI (k + 1))), (3, .int (c_X4_used_ls G x y (k + 1))), (0, .ref (ad (200))), (1, .int (x)), (2, .int (y))] := by rw [show c_X4_used_ls G x y (k + 1) = (c_X4_used_ls G x y k) + 0 from (by rw [c_X4_used_ls, if_pos c_3, if_pos c_4, if_pos c_5])]; exact lv_sub hl [0, 1, 2, 3, 4] rfl
          exact ih _ _ _ trivial hW hS hl
        · refine lv_aload_n hx hb dX4_used_42 rfl (lv_at hl 2 rfl) ?_
          refine mt_get S iw_X4 hC hW wc_200 rfl 2 (by decide) mw_fl_X4_16 rfl rfl dX4_used_43 ?_
          refine lv_iload hx hb dX4_used_46 (lv_at hl 0 rfl) ?_
          refine wk_ialn S hC hW ar_203 k rfl (by omega) (by decide) dX4_used_48 ?_
          refine lv_goto (tgt := 53) hx hb dX4_used_49 (by decide) ?_
          refine lv_iadd hx hb dX4_used_53 ?_
          refine lv_istore_n (lv' := [(3, .int ((c_X4_used_ls G x y k) + (G 203 k))), (4, .int (nI k)), (0, .ref (ad (200))), (1, .int (x)), (2, .int (y))]) hx hb dX4_used_54 rfl hl (by decide) rfl (fun ls hl => ?_)
          refine lv_iinc (v := nI (k + 1)) (lv' := [(4, .int (nI (k + 1))), (3, .int ((c_X4_used_ls G x y k) + (G 203 k))), (0, .ref (ad (200))), (1, .int (x)), (2, .int (y))]) hx hb dX4_used_55 hl (k := 1) rfl (nI_1 _) (by decide) rfl (fun ls hl => ?_)
          refine lv_goto (tgt := 5) hx hb dX4_used_58 (by decide) ?_
          have hl : lv_has ls 5 [(4, .int (nI (k + 1))), (3, .int (c_X4_used_ls G x y (k + 1))), (0, .ref (ad (200))), (1, .int (x)), (2, .int (y))] := by rw [show c_X4_used_ls G x y (k + 1) = (c_X4_used_ls G x y k) + (G 203 k) from (by rw [c_X4_used_ls, if_pos c_3, if_pos c_4, if_neg c_5])]; exact lv_sub hl [0, 1, 2, 3, 4] rfl
          exact ih _ _ _ trivial hW hS hl
def c_X4_canWrite (lc mc bc : Nat) (N G : Nat → Nat → Int32) (x : Int32) : Int32 := if (c_X4_servedBy lc mc bc N G x) = (-1) then 0 else (if (c_X4_rest x (G 205 (c_X4_servedBy lc mc bc N G x).toNatClampNeg)) = 0 then 0 else 1)
set_option maxRecDepth 100000 in
set_option maxHeartbeats 4000000 in
theorem k_X4_canWrite (l : Launch) (hlt : l.stackTraces = false) (g : mt_G) (z : Nat) (ad : Nat → Nat) (lc mc bc : Nat) (N G : Nat → Nat → Int32) (o : Nat → Int64) (d : mt_D) (h6 : lc ≤ 6) (h8 : mc ≤ 8) (hb6 : bc ≤ 6) (x : Int32) (hM : MI N G) (hx0 : IsP x) : mt_K l g z yX4_canWrite cX4_canWrite 3 (some .boolean) 3 68 0 0 [.ref (ad (200)), .int x] (mt_wc g ad lc mc bc N G o d) ad (.inr (some (.int (c_X4_canWrite lc mc bc N G x)))) (mt_wc g ad lc mc bc N G o d) ad := by
  refine mt_ofW (by decide +kernel) (Nat.le_of_ble_eq_true rfl) ?_
  intro p e s m args below meth c S hr9 hk hnm hout hC hW hS ls hl
  have hr := hr9
  have hx := S.1
  have hb := S.2.1
  have hl : lv_has ls 3 [(0, .ref (ad (200))), (1, .int (x))] := hl
  refine lv_aload_n hx hb dX4_canWrite_0 rfl (lv_at hl 0 rfl) ?_
  refine lv_iload_n hx hb dX4_canWrite_1 rfl (lv_at hl 1 rfl) ?_
  refine mt_cV1 (As := [.int (x)]) (rest := []) S pv_X4_servedBy mw_ml_X4_90 (k_X4_servedBy l hlt g z ad lc mc bc N G o d h6 h8 hb6 x (by repeat (first | exact hM | exact hP | apply MI_t)) hx0) hC hW hS wc_200 rfl rfl rfl hl.1 rfl (Nat.le_of_ble_eq_true rfl) dX4_canWrite_2 ⟨(Nat.le_of_ble_eq_true rfl), (Nat.le_of_ble_eq_true rfl)⟩ ⟨(Nat.le_of_ble_eq_true rfl), (Nat.le_of_ble_eq_true rfl)⟩ rfl (fun H locs hW hS => ?_)
  refine lv_istore_n (lv' := [(2, .int (c_X4_servedBy lc mc bc N G x)), (0, .ref (ad (200))), (1, .int (x))]) hx hb dX4_canWrite_5 rfl hl (by decide) rfl (fun ls hl => ?_)
  refine lv_iload_n hx hb dX4_canWrite_6 rfl (lv_at hl 0 rfl) ?_
  refine lv_iconst (v := -1) hx hb dX4_canWrite_7 (by decide) ?_
  refine lv_icmp_eq (tgt := 28) hx hb dX4_canWrite_8 (by decide) (fun c_1 => ?_) (fun c_1 => ?_)
  · refine lv_iconst (v := 0) hx hb dX4_canWrite_28 (by decide) ?_
    exact mt_rz S hr hk rfl hW hS (by rw [c_X4_canWrite, if_pos c_1]) (Nat.le_of_ble_eq_true rfl) (Nat.le_of_ble_eq_true rfl) dX4_canWrite_29
  · refine lv_iload_n hx hb dX4_canWrite_11 rfl (lv_at hl 2 rfl) ?_
    refine lv_aload_n hx hb dX4_canWrite_12 rfl (lv_at hl 1 rfl) ?_
    refine mt_get S iw_X4 hC hW wc_200 rfl 4 (by decide) mw_fl_X4_19 rfl rfl dX4_canWrite_13 ?_
    refine lv_iload_n hx hb dX4_canWrite_16 rfl (lv_at hl 0 rfl) ?_
    refine wk_iald S hC hW ar_205 (sb_in hM hx0 c_1) dX4_canWrite_17 ?_
    refine mt_cS1 (As := [.int (x), .int (G 205 (c_X4_servedBy lc mc bc N G x).toNatClampNeg)]) (rest := []) S ps_X4_rest mw_ml_X4_96 (k_X4_rest l hlt g z ad lc mc bc N G o d h6 h8 hb6 x (G 205 (c_X4_servedBy lc mc bc N G x).toNatClampNeg) hx0 (sb_pt hM hx0 c_1)) hC hW hS rfl hl.1 rfl (Nat.le_of_ble_eq_true rfl) dX4_canWrite_18 ⟨(Nat.le_of_ble_eq_true rfl), (Nat.le_of_ble_eq_true rfl)⟩ ⟨(Nat.le_of_ble_eq_true rfl), (Nat.le_of_ble_eq_true rfl)⟩ rfl (fun H locs hW hS => ?_)
    refine lv_if_eq (tgt := 28) hx hb dX4_canWrite_21 (by decide) (fun c_2 => ?_) (fun c_2 => ?_)
    · refine lv_iconst (v := 0) hx hb dX4_canWrite_28 (by decide) ?_
      exact mt_rz S hr hk rfl hW hS (by rw [c_X4_canWrite, if_neg c_1, if_pos c_2]) (Nat.le_of_ble_eq_true rfl) (Nat.le_of_ble_eq_true rfl) dX4_canWrite_29
    · refine lv_iconst (v := 1) hx hb dX4_canWrite_24 (by decide) ?_
      refine lv_goto (tgt := 29) hx hb dX4_canWrite_25 (by decide) ?_
      exact mt_rz S hr hk rfl hW hS (by rw [c_X4_canWrite, if_neg c_1, if_neg c_2]) (Nat.le_of_ble_eq_true rfl) (Nat.le_of_ble_eq_true rfl) dX4_canWrite_29
def c_X4_target (lc mc bc : Nat) (N G : Nat → Nat → Int32) (x : Int32) : Int32 := if (G 207 (c_X4_servedBy lc mc bc N G x).toNatClampNeg) = (-1) then ((341 * (G 206 (c_X4_servedBy lc mc bc N G x).toNatClampNeg)) + (c_X4_rank (c_X4_rest x (G 205 (c_X4_servedBy lc mc bc N G x).toNatClampNeg)))) else ((341 * (G 207 (c_X4_servedBy lc mc bc N G x).toNatClampNeg)) + (c_X4_rank (c_X4_rest x (G 205 (c_X4_servedBy lc mc bc N G x).toNatClampNeg))))
set_option maxRecDepth 100000 in
set_option maxHeartbeats 4000000 in
theorem k_X4_target (l : Launch) (hlt : l.stackTraces = false) (g : mt_G) (z : Nat) (ad : Nat → Nat) (lc mc bc : Nat) (N G : Nat → Nat → Int32) (o : Nat → Int64) (d : mt_D) (h6 : lc ≤ 6) (h8 : mc ≤ 8) (hb6 : bc ≤ 6) (x : Int32) (hM : MI N G) (hx0 : IsP x) (hs : ¬ c_X4_servedBy lc mc bc N G x = -1) : mt_K l g z yX4_target cX4_target 3 (some .int) 3 68 0 0 [.ref (ad (200)), .int x] (mt_wc g ad lc mc bc N G o d) ad (.inr (some (.int (c_X4_target lc mc bc N G x)))) (mt_wc g ad lc mc bc N G o d) ad := by
  refine mt_ofW (by decide +kernel) (Nat.le_of_ble_eq_true rfl) ?_
  intro p e s m args below meth c S hr9 hk hnm hout hC hW hS ls hl
  have hr := hr9
  have hx := S.1
  have hb := S.2.1
  have hl : lv_has ls 3 [(0, .ref (ad (200))), (1, .int (x))] := hl
  refine lv_aload_n hx hb dX4_target_0 rfl (lv_at hl 0 rfl) ?_
  refine lv_iload_n hx hb dX4_target_1 rfl (lv_at hl 1 rfl) ?_
  refine mt_cV1 (As := [.int (x)]) (rest := []) S pv_X4_servedBy mw_ml_X4_90 (k_X4_servedBy l hlt g z ad lc mc bc N G o d h6 h8 hb6 x (by repeat (first | exact hM | exact hP | apply MI_t)) hx0) hC hW hS wc_200 rfl rfl rfl hl.1 rfl (Nat.le_of_ble_eq_true rfl) dX4_target_2 ⟨(Nat.le_of_ble_eq_true rfl), (Nat.le_of_ble_eq_true rfl)⟩ ⟨(Nat.le_of_ble_eq_true rfl), (Nat.le_of_ble_eq_true rfl)⟩ rfl (fun H locs hW hS => ?_)
  refine lv_istore_n (lv' := [(2, .int (c_X4_servedBy lc mc bc N G x)), (0, .ref (ad (200))), (1, .int (x))]) hx hb dX4_target_5 rfl hl (by decide) rfl (fun ls hl => ?_)
  refine lv_sipush (v := 341) hx hb dX4_target_6 (by decide) ?_
  refine lv_aload_n hx hb dX4_target_9 rfl (lv_at hl 1 rfl) ?_
  refine mt_get S iw_X4 hC hW wc_200 rfl 6 (by decide) mw_fl_X4_25 rfl rfl dX4_target_10 ?_
  refine lv_iload_n hx hb dX4_target_13 rfl (lv_at hl 0 rfl) ?_
  refine wk_iald S hC hW ar_207 (sb_in hM hx0 hs) dX4_target_14 ?_
  refine lv_iconst (v := -1) hx hb dX4_target_15 (by decide) ?_
  refine lv_icmp_ne (tgt := 28) hx hb dX4_target_16 (by decide) (fun c_1 => ?_) (fun c_1 => ?_)
  · refine lv_aload_n hx hb dX4_target_28 rfl (lv_at hl 1 rfl) ?_
    refine mt_get S iw_X4 hC hW wc_200 rfl 6 (by decide) mw_fl_X4_25 rfl rfl dX4_target_29 ?_
    refine lv_iload_n hx hb dX4_target_32 rfl (lv_at hl 0 rfl) ?_
    refine wk_iald S hC hW ar_207 (sb_in hM hx0 hs) dX4_target_33 ?_
    refine lv_imul hx hb dX4_target_34 ?_
    refine lv_iload_n hx hb dX4_target_35 rfl (lv_at hl 2 rfl) ?_
    refine lv_aload_n hx hb dX4_target_36 rfl (lv_at hl 1 rfl) ?_
    refine mt_get S iw_X4 hC hW wc_200 rfl 4 (by decide) mw_fl_X4_19 rfl rfl dX4_target_37 ?_
    refine lv_iload_n hx hb dX4_target_40 rfl (lv_at hl 0 rfl) ?_
    refine wk_iald S hC hW ar_205 (sb_in hM hx0 hs) dX4_target_41 ?_
    refine mt_cS1 (As := [.int (x), .int (G 205 (c_X4_servedBy lc mc bc N G x).toNatClampNeg)]) (rest := [.int (341 * (G 207 (c_X4_servedBy lc mc bc N G x).toNatClampNeg))]) S ps_X4_rest mw_ml_X4_96 (k_X4_rest l hlt g z ad lc mc bc N G o d h6 h8 hb6 x (G 205 (c_X4_servedBy lc mc bc N G x).toNatClampNeg) hx0 (sb_pt hM hx0 hs)) hC hW hS rfl hl.1 rfl (Nat.le_of_ble_eq_true rfl) dX4_target_42 ⟨(Nat.le_of_ble_eq_true rfl), (Nat.le_of_ble_eq_true rfl)⟩ ⟨(Nat.le_of_ble_eq_true rfl), (Nat.le_of_ble_eq_true rfl)⟩ rfl (fun H locs hW hS => ?_)
    refine mt_cS1 (As := [.int (c_X4_rest x (G 205 (c_X4_servedBy lc mc bc N G x).toNatClampNeg))]) (rest := [.int (341 * (G 207 (c_X4_servedBy lc mc bc N G x).toNatClampNeg))]) S ps_X4_rank mw_ml_X4_99 (k_X4_rank l hlt g z ad lc mc bc N G o d h6 h8 hb6 (c_X4_rest x (G 205 (c_X4_servedBy lc mc bc N G x).toNatClampNeg)) (sb_rest hM hx0 hs)) hC hW hS rfl hl.1 rfl (Nat.le_of_ble_eq_true rfl) dX4_target_45 ⟨(Nat.le_of_ble_eq_true rfl), (Nat.le_of_ble_eq_true rfl)⟩ ⟨(Nat.le_of_ble_eq_true rfl), (Nat.le_of_ble_eq_true rfl)⟩ rfl (fun H locs hW hS => ?_)
    refine lv_iadd hx hb dX4_target_48 ?_
    exact mt_ri S hr hk hW hS (by rw [c_X4_target, if_neg c_1]) (Nat.le_of_ble_eq_true rfl) (Nat.le_of_ble_eq_true rfl) dX4_target_49
  · refine lv_aload_n hx hb dX4_target_19 rfl (lv_at hl 1 rfl) ?_
    refine mt_get S iw_X4 hC hW wc_200 rfl 5 (by decide) mw_fl_X4_22 rfl rfl dX4_target_20 ?_
    refine lv_iload_n hx hb dX4_target_23 rfl (lv_at hl 0 rfl) ?_
    refine wk_iald S hC hW ar_206 (sb_in hM hx0 hs) dX4_target_24 ?_
    refine lv_goto (tgt := 34) hx hb dX4_target_25 (by decide) ?_
    refine lv_imul hx hb dX4_target_34 ?_
    refine lv_iload_n hx hb dX4_target_35 rfl (lv_at hl 2 rfl) ?_
    refine lv_aload_n hx hb dX4_target_36 rfl (lv_at hl 1 rfl) ?_
    refine mt_get S iw_X4 hC hW wc_200 rfl 4 (by decide) mw_fl_X4_19 rfl rfl dX4_target_37 ?_
    refine lv_iload_n hx hb dX4_target_40 rfl (lv_at hl 0 rfl) ?_
    refine wk_iald S hC hW ar_205 (sb_in hM hx0 hs) dX4_target_41 ?_
    refine mt_cS1 (As := [.int (x), .int (G 205 (c_X4_servedBy lc mc bc N G x).toNatClampNeg)]) (rest := [.int (341 * (G 206 (c_X4_servedBy lc mc bc N G x).toNatClampNeg))]) S ps_X4_rest mw_ml_X4_96 (k_X4_rest l hlt g z ad lc mc bc N G o d h6 h8 hb6 x (G 205 (c_X4_servedBy lc mc bc N G x).toNatClampNeg) hx0 (sb_pt hM hx0 hs)) hC hW hS rfl hl.1 rfl (Nat.le_of_ble_eq_true rfl) dX4_target_42 ⟨(Nat.le_of_ble_eq_true rfl), (Nat.le_of_ble_eq_true rfl)⟩ ⟨(Nat.le_of_ble_eq_true rfl), (Nat.le_of_ble_eq_true rfl)⟩ rfl (fun H locs hW hS => ?_)
    refine mt_cS1 (As := [.int (c_X4_rest x (G 205 (c_X4_servedBy lc mc bc N G x).toNatClampNeg))]) (rest := [.int (341 * (G 206 (c_X4_servedBy lc mc bc N G x).toNatClampNeg))]) S ps_X4_rank mw_ml_X4_99 (k_X4_rank l hlt g z ad lc mc bc N G o d h6 h8 hb6 (c_X4_rest x (G 205 (c_X4_servedBy lc mc bc N G x).toNatClampNeg)) (sb_rest hM hx0 hs)) hC hW hS rfl hl.1 rfl (Nat.le_of_ble_eq_true rfl) dX4_target_45 ⟨(Nat.le_of_ble_eq_true rfl), (Nat.le_of_ble_eq_true rfl)⟩ ⟨(Nat.le_of_ble_eq_true rfl), (Nat.le_of_ble_eq_true rfl)⟩ rfl (fun H locs hW hS => ?_)
    refine lv_iadd hx hb dX4_target_48 ?_
    exact mt_ri S hr hk hW hS (by rw [c_X4_target, if_pos c_1]) (Nat.le_of_ble_eq_true rfl) (Nat.le_of_ble_eq_true rfl) dX4_target_49
theorem cw_s {lc mc bc : Nat} {N G : Nat → Nat → Int32} {x : Int32} (h : ¬ c_X4_canWrite lc mc bc N G x = 0) : ¬ c_X4_servedBy lc mc bc N G x = -1 := by
  intro e
  unfold c_X4_canWrite at h
  rw [if_pos e] at h
  exact h rfl
theorem tg_at {lc mc bc : Nat} {N G : Nat → Nat → Int32} {x : Int32} (hM : MI N G) (hx : IsP x) (hs : ¬ c_X4_servedBy lc mc bc N G x = -1) : ∃ j, j < 2046 ∧ c_X4_target lc mc bc N G x = nI j := by
  unfold c_X4_target
  by_cases h : G 207 (c_X4_servedBy lc mc bc N G x).toNatClampNeg = -1
  · rw [if_pos h]; exact lo_at hM hx hs
  · rw [if_neg h]; exact up_at hM hx hs h
def c_X4_puts_G (lc mc bc : Nat) (N G : Nat → Nat → Int32) (x : Int32) (k : Int32) (w : Int32) (v : Int32) : Nat → Nat → Int32 := if (c_X4_shown lc mc bc N G x) = (-1) then (mt_gu (mt_gu (mt_gu G 201 (c_X4_target lc mc bc N G x).toNatClampNeg k) 202 (c_X4_target lc mc bc N G x).toNatClampNeg w) 203 (c_X4_target lc mc bc N G x).toNatClampNeg v) else (if (c_X4_shown lc mc bc N G x) = (c_X4_target lc mc bc N G x) then (mt_gu (mt_gu (mt_gu G 201 (c_X4_target lc mc bc N G x).toNatClampNeg k) 202 (c_X4_target lc mc bc N G x).toNatClampNeg w) 203 (c_X4_target lc mc bc N G x).toNatClampNeg v) else (mt_gu (mt_gu (mt_gu G 201 (c_X4_target lc mc bc N G x).toNatClampNeg k) 202 (c_X4_target lc mc bc N G x).toNatClampNeg w) 203 (c_X4_target lc mc bc N G x).toNatClampNeg v))
def c_X4_puts_N (lc mc bc : Nat) (N G : Nat → Nat → Int32) (x : Int32) (k : Int32) (w : Int32) (v : Int32) : Nat → Nat → Int32 := if (c_X4_shown lc mc bc N G x) = (-1) then (mt_gu N 200 11 ((N 200 11) + 0)) else (if (c_X4_shown lc mc bc N G x) = (c_X4_target lc mc bc N G x) then (mt_gu N 200 11 ((N 200 11) + 0)) else (mt_gu N 200 11 ((N 200 11) + 1)))
set_option maxRecDepth 100000 in
set_option maxHeartbeats 4000000 in
theorem k_X4_puts (l : Launch) (hlt : l.stackTraces = false) (g : mt_G) (z : Nat) (ad : Nat → Nat) (lc mc bc : Nat) (N G : Nat → Nat → Int32) (o : Nat → Int64) (d : mt_D) (h6 : lc ≤ 6) (h8 : mc ≤ 8) (hb6 : bc ≤ 6) (x : Int32) (k : Int32) (w : Int32) (v : Int32) (hM : MI N G) (hx0 : IsP x) (hs : ¬ c_X4_servedBy lc mc bc N G x = -1) : mt_K l g z yX4_puts cX4_puts 7 none 4 93 0 0 [.ref (ad (200)), .int x, .int k, .int w, .int v] (mt_wc g ad lc mc bc N G o d) ad (.inr none) (mt_wc g ad lc mc bc (c_X4_puts_N lc mc bc N G x k w v) (c_X4_puts_G lc mc bc N G x k w v) o d) ad := by
  refine mt_ofW (by decide +kernel) (Nat.le_of_ble_eq_true rfl) ?_
  intro p e s m args below meth c S hr9 hk hnm hout hC hW hS ls hl
  have hr := hr9
  have hx := S.1
  have hb := S.2.1
  have hl : lv_has ls 7 [(0, .ref (ad (200))), (1, .int (x)), (2, .int (k)), (3, .int (w)), (4, .int (v))] := hl
  refine lv_aload_n hx hb dX4_puts_0 rfl (lv_at hl 0 rfl) ?_
  refine lv_iload_n hx hb dX4_puts_1 rfl (lv_at hl 1 rfl) ?_
  refine mt_cV1 (As := [.int (x)]) (rest := []) S pv_X4_target mw_ml_X4_104 (k_X4_target l hlt g z ad lc mc bc N G o d h6 h8 hb6 x (by repeat (first | exact hM | exact hP | apply MI_t)) hx0 hs) hC hW hS wc_200 rfl rfl rfl hl.1 rfl (Nat.le_of_ble_eq_true rfl) dX4_puts_2 ⟨(Nat.le_of_ble_eq_true rfl), (Nat.le_of_ble_eq_true rfl)⟩ ⟨(Nat.le_of_ble_eq_true rfl), (Nat.le_of_ble_eq_true rfl)⟩ rfl (fun H locs hW hS => ?_)
  refine lv_istore (lv' := [(5, .int (c_X4_target lc mc bc N G x)), (0, .ref (ad (200))), (1, .int (x)), (2, .int (k)), (3, .int (w)), (4, .int (v))]) hx hb dX4_puts_5 hl (by decide) rfl (fun ls hl => ?_)
  refine lv_aload_n hx hb dX4_puts_7 rfl (lv_at hl 1 rfl) ?_
  refine lv_iload_n hx hb dX4_puts_8 rfl (lv_at hl 2 rfl) ?_
  refine mt_cV1 (As := [.int (x)]) (rest := []) S pv_X4_shown mw_ml_X4_107 (k_X4_shown l hlt g z ad lc mc bc N G o d h6 h8 hb6 x (by repeat (first | exact hM | exact hP | apply MI_t)) hx0) hC hW hS wc_200 rfl rfl rfl hl.1 rfl (Nat.le_of_ble_eq_true rfl) dX4_puts_9 ⟨(Nat.le_of_ble_eq_true rfl), (Nat.le_of_ble_eq_true rfl)⟩ ⟨(Nat.le_of_ble_eq_true rfl), (Nat.le_of_ble_eq_true rfl)⟩ rfl (fun H locs hW hS => ?_)
  refine lv_istore (lv' := [(6, .int (c_X4_shown lc mc bc N G x)), (5, .int (c_X4_target lc mc bc N G x)), (0, .ref (ad (200))), (1, .int (x)), (2, .int (k)), (3, .int (w)), (4, .int (v))]) hx hb dX4_puts_12 hl (by decide) rfl (fun ls hl => ?_)
  refine lv_aload_n hx hb dX4_puts_14 rfl (lv_at hl 2 rfl) ?_
  refine lv_dup hx hb dX4_puts_15 rfl ?_
  refine mt_get S iw_X4 hC hW wc_200 rfl 11 (by decide) mw_fl_X4_110 rfl rfl dX4_puts_16 ?_
  refine lv_iload hx hb dX4_puts_19 (lv_at hl 0 rfl) ?_
  refine lv_iconst (v := -1) hx hb dX4_puts_21 (by decide) ?_
  refine lv_icmp_eq (tgt := 36) hx hb dX4_puts_22 (by decide) (fun c_1 => ?_) (fun c_1 => ?_)
  · refine lv_iconst (v := 0) hx hb dX4_puts_36 (by decide) ?_
    refine lv_iadd hx hb dX4_puts_37 ?_
    refine mt_put S iw_X4 tyX4 tyX4_ok nmX4 hC hW hS wc_200 rfl 11 (by decide) mw_fl_X4_110 rfl rfl rfl rfl (Nat.le_of_ble_eq_true rfl) dX4_puts_38 (fun H locs hW hS => ?_)
    have hW := hW.to (w1 := mt_wc g ad lc mc bc (mt_gu N 200 11 ((N 200 11) + 0)) G o d) (wc_sett (by decide))
    refine lv_aload_n hx hb dX4_puts_41 rfl (lv_at hl 2 rfl) ?_
    refine mt_get S iw_X4 hC hW wc_200 rfl 0 (by decide) mw_fl_X4_7 rfl rfl dX4_puts_42 ?_
    refine lv_iload hx hb dX4_puts_45 (lv_at hl 1 rfl) ?_
    refine lv_iload_n hx hb dX4_puts_47 rfl (lv_at hl 4 rfl) ?_
    refine wk_iast S hC hW hS ar_201 (vp_of (tg_at hM hx0 hs)) dX4_puts_48 (fun H locs hW hS => ?_)
    refine lv_aload_n hx hb dX4_puts_49 rfl (lv_at hl 2 rfl) ?_
    refine mt_get S iw_X4 hC hW wc_200 rfl 1 (by decide) mw_fl_X4_13 rfl rfl dX4_puts_50 ?_
    refine lv_iload hx hb dX4_puts_53 (lv_at hl 1 rfl) ?_
    refine lv_iload_n hx hb dX4_puts_55 rfl (lv_at hl 5 rfl) ?_
    refine wk_iast S hC hW hS ar_202 (vp_of (tg_at hM hx0 hs)) dX4_puts_56 (fun H locs hW hS => ?_)
    refine lv_aload_n hx hb dX4_puts_57 rfl (lv_at hl 2 rfl) ?_
    refine mt_get S iw_X4 hC hW wc_200 rfl 2 (by decide) mw_fl_X4_16 rfl rfl dX4_puts_58 ?_
    refine lv_iload hx hb dX4_puts_61 (lv_at hl 1 rfl) ?_
    refine lv_iload hx hb dX4_puts_63 (lv_at hl 6 rfl) ?_
    refine wk_iast S hC hW hS ar_203 (vp_of (tg_at hM hx0 hs)) dX4_puts_65 (fun H locs hW hS => ?_)
    have hW := hW.to (w1 := mt_wc g ad lc mc bc (c_X4_puts_N lc mc bc N G x k w v) (c_X4_puts_G lc mc bc N G x k w v) o d) (by rw [c_X4_puts_N, if_pos c_1, c_X4_puts_G, if_pos c_1])
    exact mt_rv S hr hk hW hS rfl (Nat.le_of_ble_eq_true rfl) (Nat.le_of_ble_eq_true rfl) dX4_puts_66
  · refine lv_iload hx hb dX4_puts_25 (lv_at hl 0 rfl) ?_
    refine lv_iload hx hb dX4_puts_27 (lv_at hl 1 rfl) ?_
    refine lv_icmp_eq (tgt := 36) hx hb dX4_puts_29 (by decide) (fun c_2 => ?_) (fun c_2 => ?_)
    · refine lv_iconst (v := 0) hx hb dX4_puts_36 (by decide) ?_
      refine lv_iadd hx hb dX4_puts_37 ?_
      refine mt_put S iw_X4 tyX4 tyX4_ok nmX4 hC hW hS wc_200 rfl 11 (by decide) mw_fl_X4_110 rfl rfl rfl rfl (Nat.le_of_ble_eq_true rfl) dX4_puts_38 (fun H locs hW hS => ?_)
      have hW := hW.to (w1 := mt_wc g ad lc mc bc (mt_gu N 200 11 ((N 200 11) + 0)) G o d) (wc_sett (by decide))
      refine lv_aload_n hx hb dX4_puts_41 rfl (lv_at hl 2 rfl) ?_
      refine mt_get S iw_X4 hC hW wc_200 rfl 0 (by decide) mw_fl_X4_7 rfl rfl dX4_puts_42 ?_
      refine lv_iload hx hb dX4_puts_45 (lv_at hl 1 rfl) ?_
      refine lv_iload_n hx hb dX4_puts_47 rfl (lv_at hl 4 rfl) ?_
      refine wk_iast S hC hW hS ar_201 (vp_of (tg_at hM hx0 hs)) dX4_puts_48 (fun H locs hW hS => ?_)
      refine lv_aload_n hx hb dX4_puts_49 rfl (lv_at hl 2 rfl) ?_
      refine mt_get S iw_X4 hC hW wc_200 rfl 1 (by decide) mw_fl_X4_13 rfl rfl dX4_puts_50 ?_
      refine lv_iload hx hb dX4_puts_53 (lv_at hl 1 rfl) ?_
      refine lv_iload_n hx hb dX4_puts_55 rfl (lv_at hl 5 rfl) ?_
      refine wk_iast S hC hW hS ar_202 (vp_of (tg_at hM hx0 hs)) dX4_puts_56 (fun H locs hW hS => ?_)
      refine lv_aload_n hx hb dX4_puts_57 rfl (lv_at hl 2 rfl) ?_
      refine mt_get S iw_X4 hC hW wc_200 rfl 2 (by decide) mw_fl_X4_16 rfl rfl dX4_puts_58 ?_
      refine lv_iload hx hb dX4_puts_61 (lv_at hl 1 rfl) ?_
      refine lv_iload hx hb dX4_puts_63 (lv_at hl 6 rfl) ?_
      refine wk_iast S hC hW hS ar_203 (vp_of (tg_at hM hx0 hs)) dX4_puts_65 (fun H locs hW hS => ?_)
      have hW := hW.to (w1 := mt_wc g ad lc mc bc (c_X4_puts_N lc mc bc N G x k w v) (c_X4_puts_G lc mc bc N G x k w v) o d) (by rw [c_X4_puts_N, if_neg c_1, if_pos c_2, c_X4_puts_G, if_neg c_1, if_pos c_2])
      exact mt_rv S hr hk hW hS rfl (Nat.le_of_ble_eq_true rfl) (Nat.le_of_ble_eq_true rfl) dX4_puts_66
    · refine lv_iconst (v := 1) hx hb dX4_puts_32 (by decide) ?_
      refine lv_goto (tgt := 37) hx hb dX4_puts_33 (by decide) ?_
      refine lv_iadd hx hb dX4_puts_37 ?_
      refine mt_put S iw_X4 tyX4 tyX4_ok nmX4 hC hW hS wc_200 rfl 11 (by decide) mw_fl_X4_110 rfl rfl rfl rfl (Nat.le_of_ble_eq_true rfl) dX4_puts_38 (fun H locs hW hS => ?_)
      have hW := hW.to (w1 := mt_wc g ad lc mc bc (mt_gu N 200 11 ((N 200 11) + 1)) G o d) (wc_sett (by decide))
      refine lv_aload_n hx hb dX4_puts_41 rfl (lv_at hl 2 rfl) ?_
      refine mt_get S iw_X4 hC hW wc_200 rfl 0 (by decide) mw_fl_X4_7 rfl rfl dX4_puts_42 ?_
      refine lv_iload hx hb dX4_puts_45 (lv_at hl 1 rfl) ?_
      refine lv_iload_n hx hb dX4_puts_47 rfl (lv_at hl 4 rfl) ?_
      refine wk_iast S hC hW hS ar_201 (vp_of (tg_at hM hx0 hs)) dX4_puts_48 (fun H locs hW hS => ?_)
      refine lv_aload_n hx hb dX4_puts_49 rfl (lv_at hl 2 rfl) ?_
      refine mt_get S iw_X4 hC hW wc_200 rfl 1 (by decide) mw_fl_X4_13 rfl rfl dX4_puts_50 ?_
      refine lv_iload hx hb dX4_puts_53 (lv_at hl 1 rfl) ?_
      refine lv_iload_n hx hb dX4_puts_55 rfl (lv_at hl 5 rfl) ?_
      refine wk_iast S hC hW hS ar_202 (vp_of (tg_at hM hx0 hs)) dX4_puts_56 (fun H locs hW hS => ?_)
      refine lv_aload_n hx hb dX4_puts_57 rfl (lv_at hl 2 rfl) ?_
      refine mt_get S iw_X4 hC hW wc_200 rfl 2 (by decide) mw_fl_X4_16 rfl rfl dX4_puts_58 ?_
      refine lv_iload hx hb dX4_puts_61 (lv_at hl 1 rfl) ?_
      refine lv_iload hx hb dX4_puts_63 (lv_at hl 6 rfl) ?_
      refine wk_iast S hC hW hS ar_203 (vp_of (tg_at hM hx0 hs)) dX4_puts_65 (fun H locs hW hS => ?_)
      have hW := hW.to (w1 := mt_wc g ad lc mc bc (c_X4_puts_N lc mc bc N G x k w v) (c_X4_puts_G lc mc bc N G x k w v) o d) (by rw [c_X4_puts_N, if_neg c_1, if_neg c_2, c_X4_puts_G, if_neg c_1, if_neg c_2])
      exact mt_rv S hr hk hW hS rfl (Nat.le_of_ble_eq_true rfl) (Nat.le_of_ble_eq_true rfl) dX4_puts_66
def c_X4_asks (lc mc bc : Nat) (N G : Nat → Nat → Int32) (x : Int32) : Int32 := if (c_X4_isPath x) = 0 then 0 else 1
set_option maxRecDepth 100000 in
set_option maxHeartbeats 4000000 in
theorem k_X4_asks (l : Launch) (hlt : l.stackTraces = false) (g : mt_G) (z : Nat) (ad : Nat → Nat) (lc mc bc : Nat) (N G : Nat → Nat → Int32) (o : Nat → Int64) (d : mt_D) (h6 : lc ≤ 6) (h8 : mc ≤ 8) (hb6 : bc ≤ 6) (x : Int32)  : mt_K l g z yX4_asks cX4_asks 2 (some .boolean) 2 47 0 0 [.ref (ad (200)), .int x] (mt_wc g ad lc mc bc N G o d) ad (.inr (some (.int (c_X4_asks lc mc bc N G x)))) (mt_wc g ad lc mc bc (mt_gu N 200 15 (if c_X4_isPath x = 0 then 1 else 0)) G o d) ad := by
  refine mt_ofW (by decide +kernel) (Nat.le_of_ble_eq_true rfl) ?_
  intro p e s m args below meth c S hr9 hk hnm hout hC hW hS ls hl
  have hr := hr9
  have hx := S.1
  have hb := S.2.1
  have hl : lv_has ls 2 [(0, .ref (ad (200))), (1, .int (x))] := hl
  refine lv_aload_n hx hb dX4_asks_0 rfl (lv_at hl 0 rfl) ?_
  refine lv_iload_n hx hb dX4_asks_1 rfl (lv_at hl 1 rfl) ?_
  refine mt_cS1 (As := [.int (x)]) (rest := [.ref (ad (200))]) S ps_X4_isPath mw_ml_X4_70 (k_X4_isPath l hlt g z ad lc mc bc N G o d h6 h8 hb6 x) hC hW hS rfl hl.1 rfl (Nat.le_of_ble_eq_true rfl) dX4_asks_2 ⟨(Nat.le_of_ble_eq_true rfl), (Nat.le_of_ble_eq_true rfl)⟩ ⟨(Nat.le_of_ble_eq_true rfl), (Nat.le_of_ble_eq_true rfl)⟩ rfl (fun H locs hW hS => ?_)
  refine lv_if_eq (tgt := 12) hx hb dX4_asks_5 (by decide) (fun c_1 => ?_) (fun c_1 => ?_)
  · refine lv_iconst (v := 1) hx hb dX4_asks_12 (by decide) ?_
    refine mt_put S iw_X4 tyX4 tyX4_ok nmX4 hC hW hS wc_200 rfl 15 (by decide) mw_fl_X4_44 rfl rfl rfl rfl (Nat.le_of_ble_eq_true rfl) dX4_asks_13 (fun H locs hW hS => ?_)
    have hW := hW.to (w1 := mt_wc g ad lc mc bc (mt_gu N 200 15 1) G o d) (wc_sett (by decide))
    refine lv_aload_n hx hb dX4_asks_16 rfl (lv_at hl 0 rfl) ?_
    refine mt_get S iw_X4 hC hW wc_200 rfl 15 (by decide) mw_fl_X4_44 rfl rfl dX4_asks_17 ?_
    refine mt_te (y := 1) rfl ?_
    refine lv_if_ne (tgt := 27) hx hb dX4_asks_20 (by decide) (fun c_2 => ?_) (fun c_2 => absurd c_2 (by decide))
    refine lv_iconst (v := 0) hx hb dX4_asks_27 (by decide) ?_
    have hW := hW.to (w1 := mt_wc g ad lc mc bc (mt_gu N 200 15 (if c_X4_isPath x = 0 then 1 else 0)) G o d) (by simp only [c_1, if_true, if_false, reduceIte])
    exact mt_rz S hr hk rfl hW hS (by rw [c_X4_asks, if_pos c_1]) (Nat.le_of_ble_eq_true rfl) (Nat.le_of_ble_eq_true rfl) dX4_asks_28
  · refine lv_iconst (v := 0) hx hb dX4_asks_8 (by decide) ?_
    refine lv_goto (tgt := 13) hx hb dX4_asks_9 (by decide) ?_
    refine mt_put S iw_X4 tyX4 tyX4_ok nmX4 hC hW hS wc_200 rfl 15 (by decide) mw_fl_X4_44 rfl rfl rfl rfl (Nat.le_of_ble_eq_true rfl) dX4_asks_13 (fun H locs hW hS => ?_)
    have hW := hW.to (w1 := mt_wc g ad lc mc bc (mt_gu N 200 15 0) G o d) (wc_sett (by decide))
    refine lv_aload_n hx hb dX4_asks_16 rfl (lv_at hl 0 rfl) ?_
    refine mt_get S iw_X4 hC hW wc_200 rfl 15 (by decide) mw_fl_X4_44 rfl rfl dX4_asks_17 ?_
    refine mt_te (y := 0) rfl ?_
    refine lv_if_ne (tgt := 27) hx hb dX4_asks_20 (by decide) (fun c_3 => absurd (by decide) c_3) (fun c_3 => ?_)
    refine lv_iconst (v := 1) hx hb dX4_asks_23 (by decide) ?_
    refine lv_goto (tgt := 28) hx hb dX4_asks_24 (by decide) ?_
    have hW := hW.to (w1 := mt_wc g ad lc mc bc (mt_gu N 200 15 (if c_X4_isPath x = 0 then 1 else 0)) G o d) (by simp only [c_1, if_true, if_false, reduceIte])
    exact mt_rz S hr hk rfl hW hS (by rw [c_X4_asks, if_neg c_1]) (Nat.le_of_ble_eq_true rfl) (Nat.le_of_ble_eq_true rfl) dX4_asks_28
def c_X4_asksShown (lc mc bc : Nat) (N G : Nat → Nat → Int32) (x : Int32) : Int32 := if c_X4_isPath x = 0 then 0 else (if (c_X4_shown lc mc bc N G x) = (-1) then 0 else 1)
set_option maxRecDepth 100000 in
set_option maxHeartbeats 4000000 in
theorem k_X4_asksShown (l : Launch) (hlt : l.stackTraces = false) (g : mt_G) (z : Nat) (ad : Nat → Nat) (lc mc bc : Nat) (N G : Nat → Nat → Int32) (o : Nat → Int64) (d : mt_D) (h6 : lc ≤ 6) (h8 : mc ≤ 8) (hb6 : bc ≤ 6) (x : Int32) (hM : MI N G) : mt_K l g z yX4_asksShown cX4_asksShown 2 (some .boolean) 4 93 0 0 [.ref (ad (200)), .int x] (mt_wc g ad lc mc bc N G o d) ad (.inr (some (.int (c_X4_asksShown lc mc bc N G x)))) (mt_wc g ad lc mc bc (mt_gu N 200 15 (if c_X4_isPath x = 0 then 1 else if c_X4_shown lc mc bc N G x = -1 then 2 else 0)) G o d) ad := by
  refine mt_ofW (by decide +kernel) (Nat.le_of_ble_eq_true rfl) ?_
  intro p e s m args below meth c S hr9 hk hnm hout hC hW hS ls hl
  have hr := hr9
  have hx := S.1
  have hb := S.2.1
  have hl : lv_has ls 2 [(0, .ref (ad (200))), (1, .int (x))] := hl
  refine lv_aload_n hx hb dX4_asksShown_0 rfl (lv_at hl 0 rfl) ?_
  refine lv_iload_n hx hb dX4_asksShown_1 rfl (lv_at hl 1 rfl) ?_
  refine mt_cV1 (As := [.int (x)]) (rest := []) S pv_X4_asks mw_ml_X4_128 (k_X4_asks l hlt g z ad lc mc bc N G o d h6 h8 hb6 x) hC hW hS wc_200 rfl rfl rfl hl.1 rfl (Nat.le_of_ble_eq_true rfl) dX4_asksShown_2 ⟨(Nat.le_of_ble_eq_true rfl), (Nat.le_of_ble_eq_true rfl)⟩ ⟨(Nat.le_of_ble_eq_true rfl), (Nat.le_of_ble_eq_true rfl)⟩ rfl (fun H locs hW hS => ?_)
  by_cases cf_1 : c_X4_isPath x = 0
  · refine mt_te (y := 0) (by rw [show c_X4_asks lc mc bc N G x = (if c_X4_isPath x = 0 then 0 else 1) from rfl, if_pos cf_1]) ?_
    have hW := hW.to (w1 := mt_wc g ad lc mc bc (mt_gu N 200 15 1) G o d) (by rw [if_pos cf_1])
    refine lv_if_eq (tgt := 26) hx hb dX4_asksShown_5 (by decide) (fun c_2 => ?_) (fun c_2 => absurd (by decide) c_2)
    refine lv_aload_n hx hb dX4_asksShown_26 rfl (lv_at hl 0 rfl) ?_
    refine mt_get S iw_X4 hC hW wc_200 rfl 15 (by decide) mw_fl_X4_44 rfl rfl dX4_asksShown_27 ?_
    refine mt_te (y := 1) rfl ?_
    refine lv_if_ne (tgt := 37) hx hb dX4_asksShown_30 (by decide) (fun c_3 => ?_) (fun c_3 => absurd c_3 (by decide))
    refine lv_iconst (v := 0) hx hb dX4_asksShown_37 (by decide) ?_
    have hW := hW.to (w1 := mt_wc g ad lc mc bc (mt_gu N 200 15 (if c_X4_isPath x = 0 then 1 else if c_X4_shown lc mc bc N G x = -1 then 2 else 0)) G o d) (by simp only [cf_1, if_true, if_false, reduceIte])
    exact mt_rz S hr hk rfl hW hS (by rw [c_X4_asksShown, if_pos cf_1]) (Nat.le_of_ble_eq_true rfl) (Nat.le_of_ble_eq_true rfl) dX4_asksShown_38
  · refine mt_te (y := 1) (by rw [show c_X4_asks lc mc bc N G x = (if c_X4_isPath x = 0 then 0 else 1) from rfl, if_neg cf_1]) ?_
    have hW := hW.to (w1 := mt_wc g ad lc mc bc (mt_gu N 200 15 0) G o d) (by rw [if_neg cf_1])
    refine lv_if_eq (tgt := 26) hx hb dX4_asksShown_5 (by decide) (fun c_4 => absurd c_4 (by decide)) (fun c_4 => ?_)
    refine lv_aload_n hx hb dX4_asksShown_8 rfl (lv_at hl 0 rfl) ?_
    refine lv_aload_n hx hb dX4_asksShown_9 rfl (lv_at hl 0 rfl) ?_
    refine lv_iload_n hx hb dX4_asksShown_10 rfl (lv_at hl 1 rfl) ?_
    refine mt_cV1 (As := [.int (x)]) (rest := [.ref (ad (200))]) S pv_X4_shown mw_ml_X4_107 (k_X4_shown l hlt g z ad lc mc bc (mt_gu N 200 15 0) G o d h6 h8 hb6 x (by repeat (first | exact hM | exact hP | apply MI_t)) (isP_of cf_1)) hC hW hS wc_200 rfl rfl rfl hl.1 rfl (Nat.le_of_ble_eq_true rfl) dX4_asksShown_11 ⟨(Nat.le_of_ble_eq_true rfl), (Nat.le_of_ble_eq_true rfl)⟩ ⟨(Nat.le_of_ble_eq_true rfl), (Nat.le_of_ble_eq_true rfl)⟩ rfl (fun H locs hW hS => ?_)
    refine mt_te (y := c_X4_shown lc mc bc N G x) rfl ?_
    refine lv_iconst (v := -1) hx hb dX4_asksShown_14 (by decide) ?_
    refine lv_icmp_ne (tgt := 22) hx hb dX4_asksShown_15 (by decide) (fun c_5 => ?_) (fun c_5 => ?_)
    · refine lv_iconst (v := 0) hx hb dX4_asksShown_22 (by decide) ?_
      refine mt_put S iw_X4 tyX4 tyX4_ok nmX4 hC hW hS wc_200 rfl 15 (by decide) mw_fl_X4_44 rfl rfl rfl rfl (Nat.le_of_ble_eq_true rfl) dX4_asksShown_23 (fun H locs hW hS => ?_)
      have hW := hW.to (w1 := mt_wc g ad lc mc bc (mt_gu N 200 15 0) G o d) ((wc_sett (by decide)).trans (by rw [mt_gu2]))
      refine lv_aload_n hx hb dX4_asksShown_26 rfl (lv_at hl 0 rfl) ?_
      refine mt_get S iw_X4 hC hW wc_200 rfl 15 (by decide) mw_fl_X4_44 rfl rfl dX4_asksShown_27 ?_
      refine mt_te (y := 0) rfl ?_
      refine lv_if_ne (tgt := 37) hx hb dX4_asksShown_30 (by decide) (fun c_6 => absurd (by decide) c_6) (fun c_6 => ?_)
      refine lv_iconst (v := 1) hx hb dX4_asksShown_33 (by decide) ?_
      refine lv_goto (tgt := 38) hx hb dX4_asksShown_34 (by decide) ?_
      have hW := hW.to (w1 := mt_wc g ad lc mc bc (mt_gu N 200 15 (if c_X4_isPath x = 0 then 1 else if c_X4_shown lc mc bc N G x = -1 then 2 else 0)) G o d) (by simp only [cf_1, c_5, if_true, if_false, reduceIte])
      exact mt_rz S hr hk rfl hW hS (by rw [c_X4_asksShown, if_neg cf_1, if_neg c_5]) (Nat.le_of_ble_eq_true rfl) (Nat.le_of_ble_eq_true rfl) dX4_asksShown_38
    · refine lv_iconst (v := 2) hx hb dX4_asksShown_18 (by decide) ?_
      refine lv_goto (tgt := 23) hx hb dX4_asksShown_19 (by decide) ?_
      refine mt_put S iw_X4 tyX4 tyX4_ok nmX4 hC hW hS wc_200 rfl 15 (by decide) mw_fl_X4_44 rfl rfl rfl rfl (Nat.le_of_ble_eq_true rfl) dX4_asksShown_23 (fun H locs hW hS => ?_)
      have hW := hW.to (w1 := mt_wc g ad lc mc bc (mt_gu N 200 15 2) G o d) ((wc_sett (by decide)).trans (by rw [mt_gu2]))
      refine lv_aload_n hx hb dX4_asksShown_26 rfl (lv_at hl 0 rfl) ?_
      refine mt_get S iw_X4 hC hW wc_200 rfl 15 (by decide) mw_fl_X4_44 rfl rfl dX4_asksShown_27 ?_
      refine mt_te (y := 2) rfl ?_
      refine lv_if_ne (tgt := 37) hx hb dX4_asksShown_30 (by decide) (fun c_7 => ?_) (fun c_7 => absurd c_7 (by decide))
      refine lv_iconst (v := 0) hx hb dX4_asksShown_37 (by decide) ?_
      have hW := hW.to (w1 := mt_wc g ad lc mc bc (mt_gu N 200 15 (if c_X4_isPath x = 0 then 1 else if c_X4_shown lc mc bc N G x = -1 then 2 else 0)) G o d) (by simp only [cf_1, c_5, if_true, if_false, reduceIte])
      exact mt_rz S hr hk rfl hW hS (by rw [c_X4_asksShown, if_neg cf_1, if_pos c_5]) (Nat.le_of_ble_eq_true rfl) (Nat.le_of_ble_eq_true rfl) dX4_asksShown_38
def c_X4_isBackup (lc mc bc : Nat) (N G : Nat → Nat → Int32) (x : Int32) : Int32 := if (c_inI x 0 ((N 200 14) - 1)) = 0 then 0 else 1
set_option maxRecDepth 100000 in
set_option maxHeartbeats 4000000 in
theorem k_X4_isBackup (l : Launch) (hlt : l.stackTraces = false) (g : mt_G) (z : Nat) (ad : Nat → Nat) (lc mc bc : Nat) (N G : Nat → Nat → Int32) (o : Nat → Int64) (d : mt_D) (h6 : lc ≤ 6) (h8 : mc ≤ 8) (hb6 : bc ≤ 6) (x : Int32)  : mt_K l g z yX4_isBackup cX4_isBackup 2 (some .boolean) 1 25 0 0 [.ref (ad (200)), .int x] (mt_wc g ad lc mc bc N G o d) ad (.inr (some (.int (c_X4_isBackup lc mc bc N G x)))) (mt_wc g ad lc mc bc (mt_gu N 200 15 (if c_inI x 0 (N 200 14 - 1) = 0 then 1 else 0)) G o d) ad := by
  refine mt_ofW (by decide +kernel) (Nat.le_of_ble_eq_true rfl) ?_
  intro p e s m args below meth c S hr9 hk hnm hout hC hW hS ls hl
  have hr := hr9
  have hx := S.1
  have hb := S.2.1
  have hl : lv_has ls 2 [(0, .ref (ad (200))), (1, .int (x))] := hl
  refine lv_aload_n hx hb dX4_isBackup_0 rfl (lv_at hl 0 rfl) ?_
  refine lv_iload_n hx hb dX4_isBackup_1 rfl (lv_at hl 1 rfl) ?_
  refine lv_i2l (v := x.toInt64) hx hb dX4_isBackup_2 rfl ?_
  refine lv_lconst (v := 0) hx hb dX4_isBackup_3 (by decide) ?_
  refine lv_aload_n hx hb dX4_isBackup_4 rfl (lv_at hl 0 rfl) ?_
  refine mt_get S iw_X4 hC hW wc_200 rfl 14 (by decide) mw_fl_X4_151 rfl rfl dX4_isBackup_5 ?_
  refine lv_iconst (v := 1) hx hb dX4_isBackup_8 (by decide) ?_
  refine lv_isub hx hb dX4_isBackup_9 ?_
  refine lv_i2l (v := ((N 200 14) - 1).toInt64) hx hb dX4_isBackup_10 rfl ?_
  refine mt_cS1 (As := [.long (x.toInt64), .long (0), .long (((N 200 14) - 1).toInt64)]) (rest := [.ref (ad (200))]) S ps_X4_in mw_ml_X4_50 (k_X4_in l hlt g z ad lc mc bc N G o d h6 h8 hb6 x.toInt64 0 (((N 200 14) - 1).toInt64)) hC hW hS rfl hl.1 rfl (Nat.le_of_ble_eq_true rfl) dX4_isBackup_11 ⟨(Nat.le_of_ble_eq_true rfl), (Nat.le_of_ble_eq_true rfl)⟩ ⟨(Nat.le_of_ble_eq_true rfl), (Nat.le_of_ble_eq_true rfl)⟩ rfl (fun H locs hW hS => ?_)
  refine mt_te (y := c_inI x 0 ((N 200 14) - 1)) (in_s (lo := 0) (hi := ((N 200 14) - 1))) ?_
  refine lv_if_eq (tgt := 21) hx hb dX4_isBackup_14 (by decide) (fun c_1 => ?_) (fun c_1 => ?_)
  · refine lv_iconst (v := 1) hx hb dX4_isBackup_21 (by decide) ?_
    refine mt_put S iw_X4 tyX4 tyX4_ok nmX4 hC hW hS wc_200 rfl 15 (by decide) mw_fl_X4_44 rfl rfl rfl rfl (Nat.le_of_ble_eq_true rfl) dX4_isBackup_22 (fun H locs hW hS => ?_)
    have hW := hW.to (w1 := mt_wc g ad lc mc bc (mt_gu N 200 15 1) G o d) (wc_sett (by decide))
    refine lv_aload_n hx hb dX4_isBackup_25 rfl (lv_at hl 0 rfl) ?_
    refine mt_get S iw_X4 hC hW wc_200 rfl 15 (by decide) mw_fl_X4_44 rfl rfl dX4_isBackup_26 ?_
    refine mt_te (y := 1) rfl ?_
    refine lv_if_ne (tgt := 36) hx hb dX4_isBackup_29 (by decide) (fun c_2 => ?_) (fun c_2 => absurd c_2 (by decide))
    refine lv_iconst (v := 0) hx hb dX4_isBackup_36 (by decide) ?_
    have hW := hW.to (w1 := mt_wc g ad lc mc bc (mt_gu N 200 15 (if c_inI x 0 (N 200 14 - 1) = 0 then 1 else 0)) G o d) (by simp only [c_1, if_true, if_false, reduceIte])
    exact mt_rz S hr hk rfl hW hS (by rw [c_X4_isBackup, if_pos c_1]) (Nat.le_of_ble_eq_true rfl) (Nat.le_of_ble_eq_true rfl) dX4_isBackup_37
  · refine lv_iconst (v := 0) hx hb dX4_isBackup_17 (by decide) ?_
    refine lv_goto (tgt := 22) hx hb dX4_isBackup_18 (by decide) ?_
    refine mt_put S iw_X4 tyX4 tyX4_ok nmX4 hC hW hS wc_200 rfl 15 (by decide) mw_fl_X4_44 rfl rfl rfl rfl (Nat.le_of_ble_eq_true rfl) dX4_isBackup_22 (fun H locs hW hS => ?_)
    have hW := hW.to (w1 := mt_wc g ad lc mc bc (mt_gu N 200 15 0) G o d) (wc_sett (by decide))
    refine lv_aload_n hx hb dX4_isBackup_25 rfl (lv_at hl 0 rfl) ?_
    refine mt_get S iw_X4 hC hW wc_200 rfl 15 (by decide) mw_fl_X4_44 rfl rfl dX4_isBackup_26 ?_
    refine mt_te (y := 0) rfl ?_
    refine lv_if_ne (tgt := 36) hx hb dX4_isBackup_29 (by decide) (fun c_3 => absurd (by decide) c_3) (fun c_3 => ?_)
    refine lv_iconst (v := 1) hx hb dX4_isBackup_32 (by decide) ?_
    refine lv_goto (tgt := 37) hx hb dX4_isBackup_33 (by decide) ?_
    have hW := hW.to (w1 := mt_wc g ad lc mc bc (mt_gu N 200 15 (if c_inI x 0 (N 200 14 - 1) = 0 then 1 else 0)) G o d) (by simp only [c_1, if_true, if_false, reduceIte])
    exact mt_rz S hr hk rfl hW hS (by rw [c_X4_isBackup, if_neg c_1]) (Nat.le_of_ble_eq_true rfl) (Nat.le_of_ble_eq_true rfl) dX4_isBackup_37
def c_X4_bytesOfAll (lc mc bc : Nat) (N G : Nat → Nat → Int32)  : Int32 := (((c_X4_used lc mc bc N G 0 (-1)) + (c_X4_used lc mc bc N G 1 (-1))) + (c_X4_used lc mc bc N G 2 (-1))) + (c_X4_used lc mc bc N G 3 (-1))
set_option maxRecDepth 100000 in
set_option maxHeartbeats 4000000 in
theorem k_X4_bytesOfAll (l : Launch) (hlt : l.stackTraces = false) (g : mt_G) (z : Nat) (ad : Nat → Nat) (lc mc bc : Nat) (N G : Nat → Nat → Int32) (o : Nat → Int64) (d : mt_D) (h6 : lc ≤ 6) (h8 : mc ≤ 8) (hb6 : bc ≤ 6)   : mt_K l g z yX4_bytesOfAll cX4_bytesOfAll 1 (some .int) 1 24 0 0 [.ref (ad (200))] (mt_wc g ad lc mc bc N G o d) ad (.inr (some (.int (c_X4_bytesOfAll lc mc bc N G)))) (mt_wc g ad lc mc bc N G o d) ad := by
  refine mt_ofW (by decide +kernel) (Nat.le_of_ble_eq_true rfl) ?_
  intro p e s m args below meth c S hr9 hk hnm hout hC hW hS ls hl
  have hr := hr9
  have hx := S.1
  have hb := S.2.1
  have hl : lv_has ls 1 [(0, .ref (ad (200)))] := hl
  refine lv_aload_n hx hb dX4_bytesOfAll_0 rfl (lv_at hl 0 rfl) ?_
  refine lv_iconst (v := 0) hx hb dX4_bytesOfAll_1 (by decide) ?_
  refine lv_iconst (v := -1) hx hb dX4_bytesOfAll_2 (by decide) ?_
  refine mt_cV1 (As := [.int (0), .int (-1)]) (rest := []) S pv_X4_used mw_ml_X4_121 (k_X4_used l hlt g z ad lc mc bc N G o d h6 h8 hb6 0 (-1)) hC hW hS wc_200 rfl rfl rfl hl.1 rfl (Nat.le_of_ble_eq_true rfl) dX4_bytesOfAll_3 ⟨(Nat.le_of_ble_eq_true rfl), (Nat.le_of_ble_eq_true rfl)⟩ ⟨(Nat.le_of_ble_eq_true rfl), (Nat.le_of_ble_eq_true rfl)⟩ rfl (fun H locs hW hS => ?_)
  refine lv_aload_n hx hb dX4_bytesOfAll_6 rfl (lv_at hl 0 rfl) ?_
  refine lv_iconst (v := 1) hx hb dX4_bytesOfAll_7 (by decide) ?_
  refine lv_iconst (v := -1) hx hb dX4_bytesOfAll_8 (by decide) ?_
  refine mt_cV1 (As := [.int (1), .int (-1)]) (rest := [.int (c_X4_used lc mc bc N G 0 (-1))]) S pv_X4_used mw_ml_X4_121 (k_X4_used l hlt g z ad lc mc bc N G o d h6 h8 hb6 1 (-1)) hC hW hS wc_200 rfl rfl rfl hl.1 rfl (Nat.le_of_ble_eq_true rfl) dX4_bytesOfAll_9 ⟨(Nat.le_of_ble_eq_true rfl), (Nat.le_of_ble_eq_true rfl)⟩ ⟨(Nat.le_of_ble_eq_true rfl), (Nat.le_of_ble_eq_true rfl)⟩ rfl (fun H locs hW hS => ?_)
  refine lv_iadd hx hb dX4_bytesOfAll_12 ?_
  refine lv_aload_n hx hb dX4_bytesOfAll_13 rfl (lv_at hl 0 rfl) ?_
  refine lv_iconst (v := 2) hx hb dX4_bytesOfAll_14 (by decide) ?_
  refine lv_iconst (v := -1) hx hb dX4_bytesOfAll_15 (by decide) ?_
  refine mt_cV1 (As := [.int (2), .int (-1)]) (rest := [.int ((c_X4_used lc mc bc N G 0 (-1)) + (c_X4_used lc mc bc N G 1 (-1)))]) S pv_X4_used mw_ml_X4_121 (k_X4_used l hlt g z ad lc mc bc N G o d h6 h8 hb6 2 (-1)) hC hW hS wc_200 rfl rfl rfl hl.1 rfl (Nat.le_of_ble_eq_true rfl) dX4_bytesOfAll_16 ⟨(Nat.le_of_ble_eq_true rfl), (Nat.le_of_ble_eq_true rfl)⟩ ⟨(Nat.le_of_ble_eq_true rfl), (Nat.le_of_ble_eq_true rfl)⟩ rfl (fun H locs hW hS => ?_)
  refine lv_iadd hx hb dX4_bytesOfAll_19 ?_
  refine lv_aload_n hx hb dX4_bytesOfAll_20 rfl (lv_at hl 0 rfl) ?_
  refine lv_iconst (v := 3) hx hb dX4_bytesOfAll_21 (by decide) ?_
  refine lv_iconst (v := -1) hx hb dX4_bytesOfAll_22 (by decide) ?_
  refine mt_cV1 (As := [.int (3), .int (-1)]) (rest := [.int (((c_X4_used lc mc bc N G 0 (-1)) + (c_X4_used lc mc bc N G 1 (-1))) + (c_X4_used lc mc bc N G 2 (-1)))]) S pv_X4_used mw_ml_X4_121 (k_X4_used l hlt g z ad lc mc bc N G o d h6 h8 hb6 3 (-1)) hC hW hS wc_200 rfl rfl rfl hl.1 rfl (Nat.le_of_ble_eq_true rfl) dX4_bytesOfAll_23 ⟨(Nat.le_of_ble_eq_true rfl), (Nat.le_of_ble_eq_true rfl)⟩ ⟨(Nat.le_of_ble_eq_true rfl), (Nat.le_of_ble_eq_true rfl)⟩ rfl (fun H locs hW hS => ?_)
  refine lv_iadd hx hb dX4_bytesOfAll_26 ?_
  exact mt_ri S hr hk hW hS (by rw [c_X4_bytesOfAll]) (Nat.le_of_ble_eq_true rfl) (Nat.le_of_ble_eq_true rfl) dX4_bytesOfAll_27

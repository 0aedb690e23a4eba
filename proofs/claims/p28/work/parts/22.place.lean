/-- the units of placeOf, and what stands after k digits -/
def c_un : Nat → Int32 | 0 => 1000 | 1 => 100 | 2 => 10 | 3 => 1 | _ => 0
theorem c_un_ne {k : Nat} (h : k < 4) : ¬ c_un k = 0 := by
  match k, h with
  | 0, _ => decide
  | 1, _ => decide
  | 2, _ => decide
  | 3, _ => decide
theorem c_un_pos {k : Nat} (h : k < 4) : ¬ c_un k ≤ 0 := by
  match k, h with
  | 0, _ => decide
  | 1, _ => decide
  | 2, _ => decide
  | 3, _ => decide
theorem c_un_div {k : Nat} (h : k < 4) : c_un k / 10 = c_un (k + 1) := by
  match k, h with
  | 0, _ => decide
  | 1, _ => decide
  | 2, _ => decide
  | 3, _ => decide
def c_dg (x : Int32) (k : Nat) : Int32 := x / c_un k - x / c_un k / 10 * 10
def c_pls (x : Int32) : Nat → Option Int32
  | 0 => some 0
  | k + 1 => match c_pls x k with
    | none => none
    | some v => if 4 < c_dg x k ∨ (c_dg x k = 0 ∧ 0 < v) then none else some (v * 4 + c_dg x k)
def c_plv (x : Int32) (k : Nat) : Int32 := (c_pls x k).getD 0
theorem c_pls_next {x : Int32} {k : Nat} (h : c_pls x k = some (c_plv x k)) (h1 : ¬ 4 < c_dg x k) (h2 : ¬ (c_dg x k = 0 ∧ 0 < c_plv x k)) : c_pls x (k + 1) = some (c_plv x k * 4 + c_dg x k) := by
  rw [c_pls, h]
  exact if_neg (fun q => q.elim h1 h2)
theorem c_pls_val {x : Int32} {k : Nat} {v : Int32} (h : c_pls x k = some v) : c_plv x k = v := by unfold c_plv; rw [h]; rfl
theorem c_pls_stop {x : Int32} {k : Nat} (h : c_pls x k = some (c_plv x k)) (h1 : 4 < c_dg x k ∨ (c_dg x k = 0 ∧ 0 < c_plv x k)) : c_pls x (k + 1) = none := by
  rw [c_pls, h]
  exact if_pos h1
theorem c_pls_none {x : Int32} {k : Nat} (h : c_pls x k = none) : ∀ n, c_pls x (k + n) = none := by
  intro n
  induction n with
  | zero => exact h
  | succ n ih => rw [← Nat.add_assoc, c_pls, ih]
def c_X3_placeOf (x : Int32) : Int32 := if x < 0 then -1 else if x ≤ 4444 then (match c_pls x 4 with | none => -1 | some v => v) else -1
theorem c_place_no {x : Int32} {k : Nat} (hk : k < 4) (h0 : ¬ x < 0) (h1 : x ≤ 4444) (h : c_pls x (k + 1) = none) : c_X3_placeOf x = -1 := by
  have h4 : c_pls x 4 = none := by
    have := c_pls_none h (4 - (k + 1))
    rwa [show k + 1 + (4 - (k + 1)) = 4 by omega] at this
  rw [c_X3_placeOf, if_neg h0, if_pos h1, h4]
theorem c_place_yes {x : Int32} (h0 : ¬ x < 0) (h1 : x ≤ 4444) (h : c_pls x 4 = some (c_plv x 4)) : c_X3_placeOf x = c_plv x 4 := by
  rw [c_X3_placeOf, if_neg h0, if_pos h1, h]
set_option maxRecDepth 100000 in
set_option maxHeartbeats 4000000 in
theorem k_X3_placeOf (l : Launch) (hlt : l.stackTraces = false) (g : mt_G) (z : Nat) (ad : Nat → Nat) (lc mc bc : Nat) (N G : Nat → Nat → Int32) (o : Nat → Int64) (d : mt_D) (h6 : lc ≤ 6) (h8 : mc ≤ 8) (hb6 : bc ≤ 6) (x : Int32)  : mt_K l g z yX3_placeOf cX3_placeOf 5 (some .int) 0 0 0 0 [.int x] (mt_wc g ad lc mc bc N G o d) ad (.inr (some (.int (c_X3_placeOf x)))) (mt_wc g ad lc mc bc N G o d) ad := by
  refine mt_ofW (by decide +kernel) (Nat.le_of_ble_eq_true rfl) ?_
  intro p e s m args below meth c S hr9 hk hnm hout hC hW hS ls hl
  have hr := hr9
  have hx := S.1
  have hb := S.2.1
  have hl : lv_has ls 5 [(0, .int (x))] := hl
  refine lv_iload_n hx hb dX3_placeOf_0 rfl (lv_at hl 0 rfl) ?_
  refine lv_if_lt (tgt := 11) hx hb dX3_placeOf_1 (by decide) (fun c_1 => ?_) (fun c_1 => ?_)
  · refine lv_iconst (v := -1) hx hb dX3_placeOf_11 (by decide) ?_
    exact mt_ri S hr hk hW hS (by rw [c_X3_placeOf, if_pos c_1]) (Nat.le_of_ble_eq_true rfl) (Nat.le_of_ble_eq_true rfl) dX3_placeOf_12
  · refine lv_iload_n hx hb dX3_placeOf_4 rfl (lv_at hl 0 rfl) ?_
    refine lv_sipush (v := 4444) hx hb dX3_placeOf_5 (by decide) ?_
    refine lv_icmp_le (tgt := 13) hx hb dX3_placeOf_8 (by decide) (fun c_2 => ?_) (fun c_2 => ?_)
    · refine lv_iconst (v := 0) hx hb dX3_placeOf_13 (by decide) ?_
      refine lv_istore_n (lv' := [(1, .int (0)), (0, .int (x))]) hx hb dX3_placeOf_14 rfl hl (by decide) rfl (fun ls hl => ?_)
      refine lv_sipush (v := 1000) hx hb dX3_placeOf_15 (by decide) ?_
      refine lv_istore_n (lv' := [(2, .int (1000)), (1, .int (0)), (0, .int (x))]) hx hb dX3_placeOf_18 rfl hl (by decide) rfl (fun ls hl => ?_)
      have hl : lv_has ls 5 [(2, .int (c_un 0)), (1, .int (c_plv x 0)), (0, .int (x))] := lv_sub hl [0, 1, 2] rfl
      refine lp_up 4 (fun k => mt_wc g ad lc mc bc N G o d) (fun k => [(2, .int (c_un k)), (1, .int (c_plv x k)), (0, .int (x))]) (fun k => c_pls x k = some (c_plv x k)) 0 (by omega) rfl hW hS hl (fun H locs ls hP hW hS hl => ?_) (fun k H locs ls hk0 hkn hP hW hS hl ih => ?_)
      · have hW : mt_W g z (mt_wc g ad lc mc bc N G o d) ad _ := hW
        have hl : lv_has ls 5 [(2, .int (c_un 4)), (1, .int (c_plv x 4)), (0, .int (x))] := hl
        have hP : c_pls x 4 = some (c_plv x 4) := hP
        refine lv_iload_n hx hb dX3_placeOf_19 rfl (lv_at hl 0 rfl) ?_
        refine lv_if_le (tgt := 71) hx hb dX3_placeOf_20 (by decide) (fun c_3 => ?_) (fun c_3 => absurd (by decide) c_3)
        refine lv_iload_n hx hb dX3_placeOf_71 rfl (lv_at hl 1 rfl) ?_
        exact mt_ri S hr hk hW hS (by rw [c_place_yes c_1 c_2 hP]) (Nat.le_of_ble_eq_true rfl) (Nat.le_of_ble_eq_true rfl) dX3_placeOf_72
      · have hW : mt_W g z (mt_wc g ad lc mc bc N G o d) ad _ := hW
        have hl : lv_has ls 5 [(2, .int (c_un k)), (1, .int (c_plv x k)), (0, .int (x))] := hl
        have hP : c_pls x k = some (c_plv x k) := hP
        refine lv_iload_n hx hb dX3_placeOf_19 rfl (lv_at hl 0 rfl) ?_
        refine lv_if_le (tgt := 71) hx hb dX3_placeOf_20 (by decide) (fun c_4 => absurd c_4 (c_un_pos hkn)) (fun c_4 => ?_)
        refine lv_iload_n hx hb dX3_placeOf_23 rfl (lv_at hl 2 rfl) ?_
        refine lv_iload_n hx hb dX3_placeOf_24 rfl (lv_at hl 0 rfl) ?_
        refine lv_idiv hx hb dX3_placeOf_25 (c_un_ne hkn) ?_
        refine lv_bipush (v := 10) hx hb dX3_placeOf_26 (by decide) ?_
        refine lv_irem hx hb dX3_placeOf_28 (by decide) ?_
        refine mt_te (y := c_dg x k) rfl ?_
        refine lv_istore_n (lv' := [(3, .int (c_dg x k)), (2, .int (c_un k)), (1, .int (c_plv x k)), (0, .int (x))]) hx hb dX3_placeOf_29 rfl hl (by decide) rfl (fun ls hl => ?_)
        refine lv_iload_n hx hb dX3_placeOf_30 rfl (lv_at hl 0 rfl) ?_
        refine lv_if_ne (tgt := 42) hx hb dX3_placeOf_31 (by decide) (fun c_5 => ?_) (fun c_5 => ?_)
        · refine lv_iconst (v := 0) hx hb dX3_placeOf_42 (by decide) ?_
          refine lv_istore (lv' := [(4, .int (0)), (3, .int (c_dg x k)), (2, .int (c_un k)), (1, .int (c_plv x k)), (0, .int (x))]) hx hb dX3_placeOf_43 hl (by decide) rfl (fun ls hl => ?_)
          refine lv_iload_n hx hb dX3_placeOf_45 rfl (lv_at hl 1 rfl) ?_
          refine lv_iconst (v := 4) hx hb dX3_placeOf_46 (by decide) ?_
          refine lv_icmp_gt (tgt := 55) hx hb dX3_placeOf_47 (by decide) (fun c_6 => ?_) (fun c_6 => ?_)
          · refine lv_iconst (v := -1) hx hb dX3_placeOf_55 (by decide) ?_
            exact mt_ri S hr hk hW hS (by rw [c_place_no hkn c_1 c_2 (c_pls_stop hP (Or.inl c_6))]) (Nat.le_of_ble_eq_true rfl) (Nat.le_of_ble_eq_true rfl) dX3_placeOf_56
          · refine lv_iload hx hb dX3_placeOf_50 (lv_at hl 0 rfl) ?_
            refine lv_if_eq (tgt := 57) hx hb dX3_placeOf_52 (by decide) (fun c_7 => ?_) (fun c_7 => absurd (by decide) c_7)
            refine lv_iload_n hx hb dX3_placeOf_57 rfl (lv_at hl 3 rfl) ?_
            refine lv_iconst (v := 4) hx hb dX3_placeOf_58 (by decide) ?_
            refine lv_imul hx hb dX3_placeOf_59 ?_
            refine lv_iload_n hx hb dX3_placeOf_60 rfl (lv_at hl 1 rfl) ?_
            refine lv_iadd hx hb dX3_placeOf_61 ?_
            refine mt_te (y := c_plv x k * 4 + c_dg x k) rfl ?_
            refine lv_istore_n (lv' := [(1, .int (c_plv x k * 4 + c_dg x k)), (4, .int (0)), (3, .int (c_dg x k)), (2, .int (c_un k)), (0, .int (x))]) hx hb dX3_placeOf_62 rfl hl (by decide) rfl (fun ls hl => ?_)
            refine lv_iload_n hx hb dX3_placeOf_63 rfl (lv_at hl 3 rfl) ?_
            refine lv_bipush (v := 10) hx hb dX3_placeOf_64 (by decide) ?_
            refine lv_idiv hx hb dX3_placeOf_66 (by decide) ?_
            refine mt_te (y := c_un (k + 1)) (c_un_div hkn) ?_
            refine lv_istore_n (lv' := [(2, .int (c_un (k + 1))), (1, .int (c_plv x k * 4 + c_dg x k)), (4, .int (0)), (3, .int (c_dg x k)), (0, .int (x))]) hx hb dX3_placeOf_67 rfl hl (by decide) rfl (fun ls hl => ?_)
            refine lv_goto (tgt := 19) hx hb dX3_placeOf_68 (by decide) ?_
            have hl : lv_has ls 5 [(2, .int (c_un (k + 1))), (1, .int (c_plv x (k + 1))), (0, .int (x))] := by rw [show c_plv x (k + 1) = c_plv x k * 4 + c_dg x k from c_pls_val (c_pls_next hP c_6 (fun q => c_5 q.1))]; exact lv_sub hl [0, 1, 4] rfl
            exact ih _ _ _ (by rw [c_pls_val (c_pls_next hP c_6 (fun q => c_5 q.1))]; exact (c_pls_next hP c_6 (fun q => c_5 q.1))) hW hS hl
        · refine lv_iload_n hx hb dX3_placeOf_34 rfl (lv_at hl 2 rfl) ?_
          refine lv_if_le (tgt := 42) hx hb dX3_placeOf_35 (by decide) (fun c_8 => ?_) (fun c_8 => ?_)
          · refine lv_iconst (v := 0) hx hb dX3_placeOf_42 (by decide) ?_
            refine lv_istore (lv' := [(4, .int (0)), (3, .int (c_dg x k)), (2, .int (c_un k)), (1, .int (c_plv x k)), (0, .int (x))]) hx hb dX3_placeOf_43 hl (by decide) rfl (fun ls hl => ?_)
            refine lv_iload_n hx hb dX3_placeOf_45 rfl (lv_at hl 1 rfl) ?_
            refine lv_iconst (v := 4) hx hb dX3_placeOf_46 (by decide) ?_
            refine lv_icmp_gt (tgt := 55) hx hb dX3_placeOf_47 (by decide) (fun c_9 => ?_) (fun c_9 => ?_)
            · refine lv_iconst (v := -1) hx hb dX3_placeOf_55 (by decide) ?_
              exact mt_ri S hr hk hW hS (by rw [c_place_no hkn c_1 c_2 (c_pls_stop hP (Or.inl c_9))]) (Nat.le_of_ble_eq_true rfl) (Nat.le_of_ble_eq_true rfl) dX3_placeOf_56
            · refine lv_iload hx hb dX3_placeOf_50 (lv_at hl 0 rfl) ?_
              refine lv_if_eq (tgt := 57) hx hb dX3_placeOf_52 (by decide) (fun c_10 => ?_) (fun c_10 => absurd (by decide) c_10)
              refine lv_iload_n hx hb dX3_placeOf_57 rfl (lv_at hl 3 rfl) ?_
              refine lv_iconst (v := 4) hx hb dX3_placeOf_58 (by decide) ?_
              refine lv_imul hx hb dX3_placeOf_59 ?_
              refine lv_iload_n hx hb dX3_placeOf_60 rfl (lv_at hl 1 rfl) ?_
              refine lv_iadd hx hb dX3_placeOf_61 ?_
              refine mt_te (y := c_plv x k * 4 + c_dg x k) rfl ?_
              refine lv_istore_n (lv' := [(1, .int (c_plv x k * 4 + c_dg x k)), (4, .int (0)), (3, .int (c_dg x k)), (2, .int (c_un k)), (0, .int (x))]) hx hb dX3_placeOf_62 rfl hl (by decide) rfl (fun ls hl => ?_)
              refine lv_iload_n hx hb dX3_placeOf_63 rfl (lv_at hl 3 rfl) ?_
              refine lv_bipush (v := 10) hx hb dX3_placeOf_64 (by decide) ?_
              refine lv_idiv hx hb dX3_placeOf_66 (by decide) ?_
              refine mt_te (y := c_un (k + 1)) (c_un_div hkn) ?_
              refine lv_istore_n (lv' := [(2, .int (c_un (k + 1))), (1, .int (c_plv x k * 4 + c_dg x k)), (4, .int (0)), (3, .int (c_dg x k)), (0, .int (x))]) hx hb dX3_placeOf_67 rfl hl (by decide) rfl (fun ls hl => ?_)
              refine lv_goto (tgt := 19) hx hb dX3_placeOf_68 (by decide) ?_
              have hl : lv_has ls 5 [(2, .int (c_un (k + 1))), (1, .int (c_plv x (k + 1))), (0, .int (x))] := by rw [show c_plv x (k + 1) = c_plv x k * 4 + c_dg x k from c_pls_val (c_pls_next hP c_9 (fun q => absurd q.2 (Int32.not_lt.mpr c_8)))]; exact lv_sub hl [0, 1, 4] rfl
              exact ih _ _ _ (by rw [c_pls_val (c_pls_next hP c_9 (fun q => absurd q.2 (Int32.not_lt.mpr c_8)))]; exact (c_pls_next hP c_9 (fun q => absurd q.2 (Int32.not_lt.mpr c_8)))) hW hS hl
          · refine lv_iconst (v := 1) hx hb dX3_placeOf_38 (by decide) ?_
            refine lv_goto (tgt := 43) hx hb dX3_placeOf_39 (by decide) ?_
            refine lv_istore (lv' := [(4, .int (1)), (3, .int (c_dg x k)), (2, .int (c_un k)), (1, .int (c_plv x k)), (0, .int (x))]) hx hb dX3_placeOf_43 hl (by decide) rfl (fun ls hl => ?_)
            refine lv_iload_n hx hb dX3_placeOf_45 rfl (lv_at hl 1 rfl) ?_
            refine lv_iconst (v := 4) hx hb dX3_placeOf_46 (by decide) ?_
            refine lv_icmp_gt (tgt := 55) hx hb dX3_placeOf_47 (by decide) (fun c_11 => ?_) (fun c_11 => ?_)
            · refine lv_iconst (v := -1) hx hb dX3_placeOf_55 (by decide) ?_
              exact mt_ri S hr hk hW hS (by rw [c_place_no hkn c_1 c_2 (c_pls_stop hP (Or.inl c_11))]) (Nat.le_of_ble_eq_true rfl) (Nat.le_of_ble_eq_true rfl) dX3_placeOf_56
            · refine lv_iload hx hb dX3_placeOf_50 (lv_at hl 0 rfl) ?_
              refine lv_if_eq (tgt := 57) hx hb dX3_placeOf_52 (by decide) (fun c_12 => absurd c_12 (by decide)) (fun c_12 => ?_)
              refine lv_iconst (v := -1) hx hb dX3_placeOf_55 (by decide) ?_
              exact mt_ri S hr hk hW hS (by rw [c_place_no hkn c_1 c_2 (c_pls_stop hP (Or.inr ⟨c_5, Int32.not_le.mp c_8⟩))]) (Nat.le_of_ble_eq_true rfl) (Nat.le_of_ble_eq_true rfl) dX3_placeOf_56
    · refine lv_iconst (v := -1) hx hb dX3_placeOf_11 (by decide) ?_
      exact mt_ri S hr hk hW hS (by rw [c_X3_placeOf, if_neg c_1, if_neg c_2]) (Nat.le_of_ble_eq_true rfl) (Nat.le_of_ble_eq_true rfl) dX3_placeOf_12
def c_X3_checkedPlace (x : Int32) : String ⊕ Int32 := if (c_X3_placeOf x) = (-1) then (.inl "java/lang/IllegalArgumentException") else (.inr (c_X3_placeOf x))
set_option maxRecDepth 100000 in
set_option maxHeartbeats 4000000 in
theorem k_X3_checkedPlace (l : Launch) (hlt : l.stackTraces = false) (g : mt_G) (z : Nat) (ad : Nat → Nat) (lc mc bc : Nat) (N G : Nat → Nat → Int32) (o : Nat → Int64) (d : mt_D) (h6 : lc ≤ 6) (h8 : mc ≤ 8) (hb6 : bc ≤ 6) (x : Int32)  : mt_K l g z yX3_checkedPlace cX3_checkedPlace 2 (some .int) 6 82 1 6 [.int x] (mt_wc g ad lc mc bc N G o d) ad (xr_i (c_X3_checkedPlace x)) (mt_wc g ad lc mc bc N G o d) ad := by
  refine mt_ofW (by decide +kernel) (Nat.le_of_ble_eq_true rfl) ?_
  intro p e s m args below meth c S hr9 hk hnm hout hC hW hS ls hl
  have hr := hr9
  have hx := S.1
  have hb := S.2.1
  have hl : lv_has ls 2 [(0, .int (x))] := hl
  refine lv_iload_n hx hb dX3_checkedPlace_0 rfl (lv_at hl 0 rfl) ?_
  refine mt_cS1 (As := [.int (x)]) (rest := []) S ps_X3_placeOf mw_ml_X3_52 (k_X3_placeOf l hlt g z ad lc mc bc N G o d h6 h8 hb6 x) hC hW hS rfl hl.1 rfl (Nat.le_of_ble_eq_true rfl) dX3_checkedPlace_1 ⟨(Nat.le_of_ble_eq_true rfl), (Nat.le_of_ble_eq_true rfl)⟩ ⟨(Nat.le_of_ble_eq_true rfl), (Nat.le_of_ble_eq_true rfl)⟩ rfl (fun H locs hW hS => ?_)
  refine lv_istore_n (lv' := [(1, .int (c_X3_placeOf x)), (0, .int (x))]) hx hb dX3_checkedPlace_4 rfl hl (by decide) rfl (fun ls hl => ?_)
  refine lv_iload_n hx hb dX3_checkedPlace_5 rfl (lv_at hl 0 rfl) ?_
  refine lv_iconst (v := -1) hx hb dX3_checkedPlace_6 (by decide) ?_
  refine lv_icmp_ne (tgt := 21) hx hb dX3_checkedPlace_7 (by decide) (fun c_1 => ?_) (fun c_1 => ?_)
  · refine lv_iload_n hx hb dX3_checkedPlace_21 rfl (lv_at hl 0 rfl) ?_
    exact mt_ri S hr hk hW hS (congrArg (a₂ := .inr (c_X3_placeOf x)) xr_i (by rw [c_X3_checkedPlace, if_neg c_1])) (Nat.le_of_ble_eq_true rfl) (Nat.le_of_ble_eq_true rfl) dX3_checkedPlace_22
  · exact mt_throwW S hlt mp_IAE (List.mem_of_getElem? (i := 6) rfl) hC hW hS hl.1 hout hk (congrArg (a₂ := .inl "java/lang/IllegalArgumentException") xr_i (by rw [c_X3_checkedPlace, if_pos c_1])) dX3_checkedPlace_10 dX3_checkedPlace_13 dX3_checkedPlace_14 dX3_checkedPlace_17 dX3_checkedPlace_20 (Nat.le_of_ble_eq_true rfl) (Nat.le_of_ble_eq_true rfl) ⟨(Nat.le_of_ble_eq_true rfl), (Nat.le_of_ble_eq_true rfl)⟩ (Nat.le_of_ble_eq_true rfl) (Nat.le_of_ble_eq_true rfl)
def c_X3_restBehind (x : Int32) (y : Int32) : Int32 := if (y / 1) = x then (y - y / 1 * 1) else (if (y / 10) = x then (y - y / 10 * 10) else (if (y / 100) = x then (y - y / 100 * 100) else (if (y / 1000) = x then (y - y / 1000 * 1000) else (if (y / 10000) = x then (y - y / 10000 * 10000) else (-1)))))
set_option maxRecDepth 100000 in
set_option maxHeartbeats 4000000 in
theorem k_X3_restBehind (l : Launch) (hlt : l.stackTraces = false) (g : mt_G) (z : Nat) (ad : Nat → Nat) (lc mc bc : Nat) (N G : Nat → Nat → Int32) (o : Nat → Int64) (d : mt_D) (h6 : lc ≤ 6) (h8 : mc ≤ 8) (hb6 : bc ≤ 6) (x : Int32) (y : Int32)  : mt_K l g z yX3_restBehind cX3_restBehind 4 (some .int) 0 0 0 0 [.int x, .int y] (mt_wc g ad lc mc bc N G o d) ad (.inr (some (.int (c_X3_restBehind x y)))) (mt_wc g ad lc mc bc N G o d) ad := by
  refine mt_ofW (by decide +kernel) (Nat.le_of_ble_eq_true rfl) ?_
  intro p e s m args below meth c S hr9 hk hnm hout hC hW hS ls hl
  have hr := hr9
  have hx := S.1
  have hb := S.2.1
  have hl : lv_has ls 4 [(0, .int (x)), (1, .int (y))] := hl
  refine lv_iconst (v := 1) hx hb dX3_restBehind_0 (by decide) ?_
  refine lv_istore_n (lv' := [(2, .int (1)), (0, .int (x)), (1, .int (y))]) hx hb dX3_restBehind_1 rfl hl (by decide) rfl (fun ls hl => ?_)
  refine lv_iconst (v := 0) hx hb dX3_restBehind_2 (by decide) ?_
  refine lv_istore_n (lv' := [(3, .int (0)), (2, .int (1)), (0, .int (x)), (1, .int (y))]) hx hb dX3_restBehind_3 rfl hl (by decide) rfl (fun ls hl => ?_)
  refine lv_iload_n hx hb dX3_restBehind_4 rfl (lv_at hl 0 rfl) ?_
  refine lv_iconst (v := 4) hx hb dX3_restBehind_5 (by decide) ?_
  refine lv_icmp_gt (tgt := 31) hx hb dX3_restBehind_6 (by decide) (fun c_1 => absurd c_1 (by decide)) (fun c_1 => ?_)
  refine lv_iload_n hx hb dX3_restBehind_9 rfl (lv_at hl 3 rfl) ?_
  refine lv_iload_n hx hb dX3_restBehind_10 rfl (lv_at hl 1 rfl) ?_
  refine lv_idiv hx hb dX3_restBehind_11 (by decide) ?_
  refine lv_iload_n hx hb dX3_restBehind_12 rfl (lv_at hl 2 rfl) ?_
  refine lv_icmp_ne (tgt := 20) hx hb dX3_restBehind_13 (by decide) (fun c_2 => ?_) (fun c_2 => ?_)
  · refine lv_iload_n hx hb dX3_restBehind_20 rfl (lv_at hl 1 rfl) ?_
    refine lv_bipush (v := 10) hx hb dX3_restBehind_21 (by decide) ?_
    refine lv_imul hx hb dX3_restBehind_23 ?_
    refine mt_te (y := 10) (by decide) ?_
    refine lv_istore_n (lv' := [(2, .int (10)), (3, .int (0)), (0, .int (x)), (1, .int (y))]) hx hb dX3_restBehind_24 rfl hl (by decide) rfl (fun ls hl => ?_)
    refine lv_iinc (v := 1) (lv' := [(3, .int (1)), (2, .int (10)), (0, .int (x)), (1, .int (y))]) hx hb dX3_restBehind_25 hl (k := 1) rfl rfl (by decide) rfl (fun ls hl => ?_)
    refine lv_goto (tgt := 4) hx hb dX3_restBehind_28 (by decide) ?_
    refine lv_iload_n hx hb dX3_restBehind_4 rfl (lv_at hl 0 rfl) ?_
    refine lv_iconst (v := 4) hx hb dX3_restBehind_5 (by decide) ?_
    refine lv_icmp_gt (tgt := 31) hx hb dX3_restBehind_6 (by decide) (fun c_3 => absurd c_3 (by decide)) (fun c_3 => ?_)
    refine lv_iload_n hx hb dX3_restBehind_9 rfl (lv_at hl 3 rfl) ?_
    refine lv_iload_n hx hb dX3_restBehind_10 rfl (lv_at hl 1 rfl) ?_
    refine lv_idiv hx hb dX3_restBehind_11 (by decide) ?_
    refine lv_iload_n hx hb dX3_restBehind_12 rfl (lv_at hl 2 rfl) ?_
    refine lv_icmp_ne (tgt := 20) hx hb dX3_restBehind_13 (by decide) (fun c_4 => ?_) (fun c_4 => ?_)
    · refine lv_iload_n hx hb dX3_restBehind_20 rfl (lv_at hl 1 rfl) ?_
      refine lv_bipush (v := 10) hx hb dX3_restBehind_21 (by decide) ?_
      refine lv_imul hx hb dX3_restBehind_23 ?_
      refine mt_te (y := 100) (by decide) ?_
      refine lv_istore_n (lv' := [(2, .int (100)), (3, .int (1)), (0, .int (x)), (1, .int (y))]) hx hb dX3_restBehind_24 rfl hl (by decide) rfl (fun ls hl => ?_)
      refine lv_iinc (v := 2) (lv' := [(3, .int (2)), (2, .int (100)), (0, .int (x)), (1, .int (y))]) hx hb dX3_restBehind_25 hl (k := 1) rfl rfl (by decide) rfl (fun ls hl => ?_)
      refine lv_goto (tgt := 4) hx hb dX3_restBehind_28 (by decide) ?_
      refine lv_iload_n hx hb dX3_restBehind_4 rfl (lv_at hl 0 rfl) ?_
      refine lv_iconst (v := 4) hx hb dX3_restBehind_5 (by decide) ?_
      refine lv_icmp_gt (tgt := 31) hx hb dX3_restBehind_6 (by decide) (fun c_5 => absurd c_5 (by decide)) (fun c_5 => ?_)
      refine lv_iload_n hx hb dX3_restBehind_9 rfl (lv_at hl 3 rfl) ?_
      refine lv_iload_n hx hb dX3_restBehind_10 rfl (lv_at hl 1 rfl) ?_
      refine lv_idiv hx hb dX3_restBehind_11 (by decide) ?_
      refine lv_iload_n hx hb dX3_restBehind_12 rfl (lv_at hl 2 rfl) ?_
      refine lv_icmp_ne (tgt := 20) hx hb dX3_restBehind_13 (by decide) (fun c_6 => ?_) (fun c_6 => ?_)
      · refine lv_iload_n hx hb dX3_restBehind_20 rfl (lv_at hl 1 rfl) ?_
        refine lv_bipush (v := 10) hx hb dX3_restBehind_21 (by decide) ?_
        refine lv_imul hx hb dX3_restBehind_23 ?_
        refine mt_te (y := 1000) (by decide) ?_
        refine lv_istore_n (lv' := [(2, .int (1000)), (3, .int (2)), (0, .int (x)), (1, .int (y))]) hx hb dX3_restBehind_24 rfl hl (by decide) rfl (fun ls hl => ?_)
        refine lv_iinc (v := 3) (lv' := [(3, .int (3)), (2, .int (1000)), (0, .int (x)), (1, .int (y))]) hx hb dX3_restBehind_25 hl (k := 1) rfl rfl (by decide) rfl (fun ls hl => ?_)
        refine lv_goto (tgt := 4) hx hb dX3_restBehind_28 (by decide) ?_
        refine lv_iload_n hx hb dX3_restBehind_4 rfl (lv_at hl 0 rfl) ?_
        refine lv_iconst (v := 4) hx hb dX3_restBehind_5 (by decide) ?_
        refine lv_icmp_gt (tgt := 31) hx hb dX3_restBehind_6 (by decide) (fun c_7 => absurd c_7 (by decide)) (fun c_7 => ?_)
        refine lv_iload_n hx hb dX3_restBehind_9 rfl (lv_at hl 3 rfl) ?_
        refine lv_iload_n hx hb dX3_restBehind_10 rfl (lv_at hl 1 rfl) ?_
        refine lv_idiv hx hb dX3_restBehind_11 (by decide) ?_
        refine lv_iload_n hx hb dX3_restBehind_12 rfl (lv_at hl 2 rfl) ?_
        refine lv_icmp_ne (tgt := 20) hx hb dX3_restBehind_13 (by decide) (fun c_8 => ?_) (fun c_8 => ?_)
        · refine lv_iload_n hx hb dX3_restBehind_20 rfl (lv_at hl 1 rfl) ?_
          refine lv_bipush (v := 10) hx hb dX3_restBehind_21 (by decide) ?_
          refine lv_imul hx hb dX3_restBehind_23 ?_
          refine mt_te (y := 10000) (by decide) ?_
          refine lv_istore_n (lv' := [(2, .int (10000)), (3, .int (3)), (0, .int (x)), (1, .int (y))]) hx hb dX3_restBehind_24 rfl hl (by decide) rfl (fun ls hl => ?_)
          refine lv_iinc (v := 4) (lv' := [(3, .int (4)), (2, .int (10000)), (0, .int (x)), (1, .int (y))]) hx hb dX3_restBehind_25 hl (k := 1) rfl rfl (by decide) rfl (fun ls hl => ?_)
          refine lv_goto (tgt := 4) hx hb dX3_restBehind_28 (by decide) ?_
          refine lv_iload_n hx hb dX3_restBehind_4 rfl (lv_at hl 0 rfl) ?_
          refine lv_iconst (v := 4) hx hb dX3_restBehind_5 (by decide) ?_
          refine lv_icmp_gt (tgt := 31) hx hb dX3_restBehind_6 (by decide) (fun c_9 => absurd c_9 (by decide)) (fun c_9 => ?_)
          refine lv_iload_n hx hb dX3_restBehind_9 rfl (lv_at hl 3 rfl) ?_
          refine lv_iload_n hx hb dX3_restBehind_10 rfl (lv_at hl 1 rfl) ?_
          refine lv_idiv hx hb dX3_restBehind_11 (by decide) ?_
          refine lv_iload_n hx hb dX3_restBehind_12 rfl (lv_at hl 2 rfl) ?_
          refine lv_icmp_ne (tgt := 20) hx hb dX3_restBehind_13 (by decide) (fun c_10 => ?_) (fun c_10 => ?_)
          · refine lv_iload_n hx hb dX3_restBehind_20 rfl (lv_at hl 1 rfl) ?_
            refine lv_bipush (v := 10) hx hb dX3_restBehind_21 (by decide) ?_
            refine lv_imul hx hb dX3_restBehind_23 ?_
            refine mt_te (y := 100000) (by decide) ?_
            refine lv_istore_n (lv' := [(2, .int (100000)), (3, .int (4)), (0, .int (x)), (1, .int (y))]) hx hb dX3_restBehind_24 rfl hl (by decide) rfl (fun ls hl => ?_)
            refine lv_iinc (v := 5) (lv' := [(3, .int (5)), (2, .int (100000)), (0, .int (x)), (1, .int (y))]) hx hb dX3_restBehind_25 hl (k := 1) rfl rfl (by decide) rfl (fun ls hl => ?_)
            refine lv_goto (tgt := 4) hx hb dX3_restBehind_28 (by decide) ?_
            refine lv_iload_n hx hb dX3_restBehind_4 rfl (lv_at hl 0 rfl) ?_
            refine lv_iconst (v := 4) hx hb dX3_restBehind_5 (by decide) ?_
            refine lv_icmp_gt (tgt := 31) hx hb dX3_restBehind_6 (by decide) (fun c_11 => ?_) (fun c_11 => absurd (by decide) c_11)
            refine lv_iconst (v := -1) hx hb dX3_restBehind_31 (by decide) ?_
            exact mt_ri S hr hk hW hS (by rw [c_X3_restBehind, if_neg c_2, if_neg c_4, if_neg c_6, if_neg c_8, if_neg c_10]) (Nat.le_of_ble_eq_true rfl) (Nat.le_of_ble_eq_true rfl) dX3_restBehind_32
          · refine lv_iload_n hx hb dX3_restBehind_16 rfl (lv_at hl 3 rfl) ?_
            refine lv_iload_n hx hb dX3_restBehind_17 rfl (lv_at hl 1 rfl) ?_
            refine lv_irem hx hb dX3_restBehind_18 (by decide) ?_
            exact mt_ri S hr hk hW hS (by rw [c_X3_restBehind, if_neg c_2, if_neg c_4, if_neg c_6, if_neg c_8, if_pos c_10]) (Nat.le_of_ble_eq_true rfl) (Nat.le_of_ble_eq_true rfl) dX3_restBehind_19
        · refine lv_iload_n hx hb dX3_restBehind_16 rfl (lv_at hl 3 rfl) ?_
          refine lv_iload_n hx hb dX3_restBehind_17 rfl (lv_at hl 1 rfl) ?_
          refine lv_irem hx hb dX3_restBehind_18 (by decide) ?_
          exact mt_ri S hr hk hW hS (by rw [c_X3_restBehind, if_neg c_2, if_neg c_4, if_neg c_6, if_pos c_8]) (Nat.le_of_ble_eq_true rfl) (Nat.le_of_ble_eq_true rfl) dX3_restBehind_19
      · refine lv_iload_n hx hb dX3_restBehind_16 rfl (lv_at hl 3 rfl) ?_
        refine lv_iload_n hx hb dX3_restBehind_17 rfl (lv_at hl 1 rfl) ?_
        refine lv_irem hx hb dX3_restBehind_18 (by decide) ?_
        exact mt_ri S hr hk hW hS (by rw [c_X3_restBehind, if_neg c_2, if_neg c_4, if_pos c_6]) (Nat.le_of_ble_eq_true rfl) (Nat.le_of_ble_eq_true rfl) dX3_restBehind_19
    · refine lv_iload_n hx hb dX3_restBehind_16 rfl (lv_at hl 3 rfl) ?_
      refine lv_iload_n hx hb dX3_restBehind_17 rfl (lv_at hl 1 rfl) ?_
      refine lv_irem hx hb dX3_restBehind_18 (by decide) ?_
      exact mt_ri S hr hk hW hS (by rw [c_X3_restBehind, if_neg c_2, if_pos c_4]) (Nat.le_of_ble_eq_true rfl) (Nat.le_of_ble_eq_true rfl) dX3_restBehind_19
  · refine lv_iload_n hx hb dX3_restBehind_16 rfl (lv_at hl 3 rfl) ?_
    refine lv_iload_n hx hb dX3_restBehind_17 rfl (lv_at hl 1 rfl) ?_
    refine lv_irem hx hb dX3_restBehind_18 (by decide) ?_
    exact mt_ri S hr hk hW hS (by rw [c_X3_restBehind, if_pos c_2]) (Nat.le_of_ble_eq_true rfl) (Nat.le_of_ble_eq_true rfl) dX3_restBehind_19
def c_X3_allBytes (lc mc bc : Nat) (N G : Nat → Nat → Int32)  : Int32 := (((0 + (c_X3_usedBy lc mc bc N G 0)) + (c_X3_usedBy lc mc bc N G 1)) + (c_X3_usedBy lc mc bc N G 2)) + (c_X3_usedBy lc mc bc N G 3)
set_option maxRecDepth 100000 in
set_option maxHeartbeats 4000000 in
theorem k_X3_allBytes (l : Launch) (hlt : l.stackTraces = false) (g : mt_G) (z : Nat) (ad : Nat → Nat) (lc mc bc : Nat) (N G : Nat → Nat → Int32) (o : Nat → Int64) (d : mt_D) (h6 : lc ≤ 6) (h8 : mc ≤ 8) (hb6 : bc ≤ 6)   : mt_K l g z yX3_allBytes cX3_allBytes 3 (some .int) 2 41 0 0 [.ref (ad (0))] (mt_wc g ad lc mc bc N G o d) ad (.inr (some (.int (c_X3_allBytes lc mc bc N G)))) (mt_wc g ad lc mc bc N G o d) ad := by
  refine mt_ofW (by decide +kernel) (Nat.le_of_ble_eq_true rfl) ?_
  intro p e s m args below meth c S hr9 hk hnm hout hC hW hS ls hl
  have hr := hr9
  have hx := S.1
  have hb := S.2.1
  have hl : lv_has ls 3 [(0, .ref (ad (0)))] := hl
  refine lv_iconst (v := 0) hx hb dX3_allBytes_0 (by decide) ?_
  refine lv_istore_n (lv' := [(1, .int (0)), (0, .ref (ad (0)))]) hx hb dX3_allBytes_1 rfl hl (by decide) rfl (fun ls hl => ?_)
  refine lv_iconst (v := 0) hx hb dX3_allBytes_2 (by decide) ?_
  refine lv_istore_n (lv' := [(2, .int (0)), (1, .int (0)), (0, .ref (ad (0)))]) hx hb dX3_allBytes_3 rfl hl (by decide) rfl (fun ls hl => ?_)
  refine lv_iload_n hx hb dX3_allBytes_4 rfl (lv_at hl 0 rfl) ?_
  refine lv_iconst (v := 4) hx hb dX3_allBytes_5 (by decide) ?_
  refine lv_icmp_ge (tgt := 23) hx hb dX3_allBytes_6 (by decide) (fun c_1 => absurd c_1 (by decide)) (fun c_1 => ?_)
  refine lv_iload_n hx hb dX3_allBytes_9 rfl (lv_at hl 1 rfl) ?_
  refine lv_aload_n hx hb dX3_allBytes_10 rfl (lv_at hl 2 rfl) ?_
  refine lv_iload_n hx hb dX3_allBytes_11 rfl (lv_at hl 0 rfl) ?_
  refine mt_cV1 (As := [.int (0)]) (rest := [.int (0)]) S pv_X3_usedBy mw_ml_X3_130 (k_X3_usedBy l hlt g z ad lc mc bc N G o d h6 h8 hb6 0) hC hW hS wc_0 rfl rfl rfl hl.1 rfl (Nat.le_of_ble_eq_true rfl) dX3_allBytes_12 ⟨(Nat.le_of_ble_eq_true rfl), (Nat.le_of_ble_eq_true rfl)⟩ ⟨(Nat.le_of_ble_eq_true rfl), (Nat.le_of_ble_eq_true rfl)⟩ rfl (fun H locs hW hS => ?_)
  refine lv_iadd hx hb dX3_allBytes_15 ?_
  refine lv_istore_n (lv' := [(1, .int (0 + (c_X3_usedBy lc mc bc N G 0))), (2, .int (0)), (0, .ref (ad (0)))]) hx hb dX3_allBytes_16 rfl hl (by decide) rfl (fun ls hl => ?_)
  refine lv_iinc (v := 1) (lv' := [(2, .int (1)), (1, .int (0 + (c_X3_usedBy lc mc bc N G 0))), (0, .ref (ad (0)))]) hx hb dX3_allBytes_17 hl (k := 1) rfl rfl (by decide) rfl (fun ls hl => ?_)
  refine lv_goto (tgt := 4) hx hb dX3_allBytes_20 (by decide) ?_
  refine lv_iload_n hx hb dX3_allBytes_4 rfl (lv_at hl 0 rfl) ?_
  refine lv_iconst (v := 4) hx hb dX3_allBytes_5 (by decide) ?_
  refine lv_icmp_ge (tgt := 23) hx hb dX3_allBytes_6 (by decide) (fun c_2 => absurd c_2 (by decide)) (fun c_2 => ?_)
  refine lv_iload_n hx hb dX3_allBytes_9 rfl (lv_at hl 1 rfl) ?_
  refine lv_aload_n hx hb dX3_allBytes_10 rfl (lv_at hl 2 rfl) ?_
  refine lv_iload_n hx hb dX3_allBytes_11 rfl (lv_at hl 0 rfl) ?_
  refine mt_cV1 (As := [.int (1)]) (rest := [.int (0 + (c_X3_usedBy lc mc bc N G 0))]) S pv_X3_usedBy mw_ml_X3_130 (k_X3_usedBy l hlt g z ad lc mc bc N G o d h6 h8 hb6 1) hC hW hS wc_0 rfl rfl rfl hl.1 rfl (Nat.le_of_ble_eq_true rfl) dX3_allBytes_12 ⟨(Nat.le_of_ble_eq_true rfl), (Nat.le_of_ble_eq_true rfl)⟩ ⟨(Nat.le_of_ble_eq_true rfl), (Nat.le_of_ble_eq_true rfl)⟩ rfl (fun H locs hW hS => ?_)
  refine lv_iadd hx hb dX3_allBytes_15 ?_
  refine lv_istore_n (lv' := [(1, .int ((0 + (c_X3_usedBy lc mc bc N G 0)) + (c_X3_usedBy lc mc bc N G 1))), (2, .int (1)), (0, .ref (ad (0)))]) hx hb dX3_allBytes_16 rfl hl (by decide) rfl (fun ls hl => ?_)
  refine lv_iinc (v := 2) (lv' := [(2, .int (2)), (1, .int ((0 + (c_X3_usedBy lc mc bc N G 0)) + (c_X3_usedBy lc mc bc N G 1))), (0, .ref (ad (0)))]) hx hb dX3_allBytes_17 hl (k := 1) rfl rfl (by decide) rfl (fun ls hl => ?_)
  refine lv_goto (tgt := 4) hx hb dX3_allBytes_20 (by decide) ?_
  refine lv_iload_n hx hb dX3_allBytes_4 rfl (lv_at hl 0 rfl) ?_
  refine lv_iconst (v := 4) hx hb dX3_allBytes_5 (by decide) ?_
  refine lv_icmp_ge (tgt := 23) hx hb dX3_allBytes_6 (by decide) (fun c_3 => absurd c_3 (by decide)) (fun c_3 => ?_)
  refine lv_iload_n hx hb dX3_allBytes_9 rfl (lv_at hl 1 rfl) ?_
  refine lv_aload_n hx hb dX3_allBytes_10 rfl (lv_at hl 2 rfl) ?_
  refine lv_iload_n hx hb dX3_allBytes_11 rfl (lv_at hl 0 rfl) ?_
  refine mt_cV1 (As := [.int (2)]) (rest := [.int ((0 + (c_X3_usedBy lc mc bc N G 0)) + (c_X3_usedBy lc mc bc N G 1))]) S pv_X3_usedBy mw_ml_X3_130 (k_X3_usedBy l hlt g z ad lc mc bc N G o d h6 h8 hb6 2) hC hW hS wc_0 rfl rfl rfl hl.1 rfl (Nat.le_of_ble_eq_true rfl) dX3_allBytes_12 ⟨(Nat.le_of_ble_eq_true rfl), (Nat.le_of_ble_eq_true rfl)⟩ ⟨(Nat.le_of_ble_eq_true rfl), (Nat.le_of_ble_eq_true rfl)⟩ rfl (fun H locs hW hS => ?_)
  refine lv_iadd hx hb dX3_allBytes_15 ?_
  refine lv_istore_n (lv' := [(1, .int (((0 + (c_X3_usedBy lc mc bc N G 0)) + (c_X3_usedBy lc mc bc N G 1)) + (c_X3_usedBy lc mc bc N G 2))), (2, .int (2)), (0, .ref (ad (0)))]) hx hb dX3_allBytes_16 rfl hl (by decide) rfl (fun ls hl => ?_)
  refine lv_iinc (v := 3) (lv' := [(2, .int (3)), (1, .int (((0 + (c_X3_usedBy lc mc bc N G 0)) + (c_X3_usedBy lc mc bc N G 1)) + (c_X3_usedBy lc mc bc N G 2))), (0, .ref (ad (0)))]) hx hb dX3_allBytes_17 hl (k := 1) rfl rfl (by decide) rfl (fun ls hl => ?_)
  refine lv_goto (tgt := 4) hx hb dX3_allBytes_20 (by decide) ?_
  refine lv_iload_n hx hb dX3_allBytes_4 rfl (lv_at hl 0 rfl) ?_
  refine lv_iconst (v := 4) hx hb dX3_allBytes_5 (by decide) ?_
  refine lv_icmp_ge (tgt := 23) hx hb dX3_allBytes_6 (by decide) (fun c_4 => absurd c_4 (by decide)) (fun c_4 => ?_)
  refine lv_iload_n hx hb dX3_allBytes_9 rfl (lv_at hl 1 rfl) ?_
  refine lv_aload_n hx hb dX3_allBytes_10 rfl (lv_at hl 2 rfl) ?_
  refine lv_iload_n hx hb dX3_allBytes_11 rfl (lv_at hl 0 rfl) ?_
  refine mt_cV1 (As := [.int (3)]) (rest := [.int (((0 + (c_X3_usedBy lc mc bc N G 0)) + (c_X3_usedBy lc mc bc N G 1)) + (c_X3_usedBy lc mc bc N G 2))]) S pv_X3_usedBy mw_ml_X3_130 (k_X3_usedBy l hlt g z ad lc mc bc N G o d h6 h8 hb6 3) hC hW hS wc_0 rfl rfl rfl hl.1 rfl (Nat.le_of_ble_eq_true rfl) dX3_allBytes_12 ⟨(Nat.le_of_ble_eq_true rfl), (Nat.le_of_ble_eq_true rfl)⟩ ⟨(Nat.le_of_ble_eq_true rfl), (Nat.le_of_ble_eq_true rfl)⟩ rfl (fun H locs hW hS => ?_)
  refine lv_iadd hx hb dX3_allBytes_15 ?_
  refine lv_istore_n (lv' := [(1, .int ((((0 + (c_X3_usedBy lc mc bc N G 0)) + (c_X3_usedBy lc mc bc N G 1)) + (c_X3_usedBy lc mc bc N G 2)) + (c_X3_usedBy lc mc bc N G 3))), (2, .int (3)), (0, .ref (ad (0)))]) hx hb dX3_allBytes_16 rfl hl (by decide) rfl (fun ls hl => ?_)
  refine lv_iinc (v := 4) (lv' := [(2, .int (4)), (1, .int ((((0 + (c_X3_usedBy lc mc bc N G 0)) + (c_X3_usedBy lc mc bc N G 1)) + (c_X3_usedBy lc mc bc N G 2)) + (c_X3_usedBy lc mc bc N G 3))), (0, .ref (ad (0)))]) hx hb dX3_allBytes_17 hl (k := 1) rfl rfl (by decide) rfl (fun ls hl => ?_)
  refine lv_goto (tgt := 4) hx hb dX3_allBytes_20 (by decide) ?_
  refine lv_iload_n hx hb dX3_allBytes_4 rfl (lv_at hl 0 rfl) ?_
  refine lv_iconst (v := 4) hx hb dX3_allBytes_5 (by decide) ?_
  refine lv_icmp_ge (tgt := 23) hx hb dX3_allBytes_6 (by decide) (fun c_5 => ?_) (fun c_5 => absurd (by decide) c_5)
  refine lv_iload_n hx hb dX3_allBytes_23 rfl (lv_at hl 1 rfl) ?_
  exact mt_ri S hr hk hW hS (by rw [c_X3_allBytes]) (Nat.le_of_ble_eq_true rfl) (Nat.le_of_ble_eq_true rfl) dX3_allBytes_24
def c_X3_checkedLayer (lc mc bc : Nat) (N G : Nat → Nat → Int32) (x : Int32) : String ⊕ Nat := ocase (c_X3_layerAt lc mc bc N G x) (.inl "java/lang/IndexOutOfBoundsException") (fun i_2 => .inr i_2)
set_option maxRecDepth 100000 in
set_option maxHeartbeats 4000000 in
theorem k_X3_checkedLayer (l : Launch) (hlt : l.stackTraces = false) (g : mt_G) (z : Nat) (ad : Nat → Nat) (lc mc bc : Nat) (N G : Nat → Nat → Int32) (o : Nat → Int64) (d : mt_D) (h6 : lc ≤ 6) (h8 : mc ≤ 8) (hb6 : bc ≤ 6) (x : Int32)  : mt_K l g z yX3_checkedLayer cX3_checkedLayer 3 (some (.object "MountTable$Layer")) 6 82 1 6 [.ref (ad (0)), .int x] (mt_wc g ad lc mc bc N G o d) ad (xr_n ad 100 (c_X3_checkedLayer lc mc bc N G x)) (mt_wc g ad lc mc bc N G o d) ad := by
  refine mt_ofW (by decide +kernel) (Nat.le_of_ble_eq_true rfl) ?_
  intro p e s m args below meth c S hr9 hk hnm hout hC hW hS ls hl
  have hr := hr9
  have hx := S.1
  have hb := S.2.1
  have hl : lv_has ls 3 [(0, .ref (ad (0))), (1, .int (x))] := hl
  refine lv_aload_n hx hb dX3_checkedLayer_0 rfl (lv_at hl 0 rfl) ?_
  refine lv_iload_n hx hb dX3_checkedLayer_1 rfl (lv_at hl 1 rfl) ?_
  rcases hq_1 : (c_X3_layerAt lc mc bc N G x) with _ | i_2
  · refine mt_cV1 (v := .null) (As := [.int (x)]) (rest := []) S pv_X3_layerAt mw_ml_X3_61 (k_X3_layerAt l hlt g z ad lc mc bc N G o d h6 h8 hb6 x) hC hW hS wc_0 rfl rfl rfl hl.1 rfl (Nat.le_of_ble_eq_true rfl) dX3_checkedLayer_2 ⟨(Nat.le_of_ble_eq_true rfl), (Nat.le_of_ble_eq_true rfl)⟩ ⟨(Nat.le_of_ble_eq_true rfl), (Nat.le_of_ble_eq_true rfl)⟩ (congrArg (a₂ := none) (xr_a ad 100) hq_1) (fun H locs hW hS => ?_)
    refine lv_astore_nN (lv' := [(2, .null), (0, .ref (ad (0))), (1, .int (x))]) hx hb dX3_checkedLayer_5 rfl hl (by decide) rfl (fun ls hl => ?_)
    refine lv_aload_nN hx hb dX3_checkedLayer_6 rfl (lv_at hl 0 rfl) ?_
    refine lv_ifnonnullN hx hb dX3_checkedLayer_7 ?_
    exact mt_throw S hlt mp_IOO (List.mem_of_getElem? (i := 2) rfl) hC hW hS hl.1 hout hk (congrArg (a₂ := .inl "java/lang/IndexOutOfBoundsException") (xr_n ad 100) (by rw [c_X3_checkedLayer, ocase_n hq_1])) dX3_checkedLayer_10 dX3_checkedLayer_13 dX3_checkedLayer_14 dX3_checkedLayer_16 dX3_checkedLayer_19 (Nat.le_of_ble_eq_true rfl) (Nat.le_of_ble_eq_true rfl) ⟨(Nat.le_of_ble_eq_true rfl), (Nat.le_of_ble_eq_true rfl)⟩ (Nat.le_of_ble_eq_true rfl) (Nat.le_of_ble_eq_true rfl)
  · refine mt_cV1 (v := .ref (ad (100 + i_2))) (As := [.int (x)]) (rest := []) S pv_X3_layerAt mw_ml_X3_61 (k_X3_layerAt l hlt g z ad lc mc bc N G o d h6 h8 hb6 x) hC hW hS wc_0 rfl rfl rfl hl.1 rfl (Nat.le_of_ble_eq_true rfl) dX3_checkedLayer_2 ⟨(Nat.le_of_ble_eq_true rfl), (Nat.le_of_ble_eq_true rfl)⟩ ⟨(Nat.le_of_ble_eq_true rfl), (Nat.le_of_ble_eq_true rfl)⟩ (congrArg (a₂ := some i_2) (xr_a ad 100) hq_1) (fun H locs hW hS => ?_)
    have hi_i_2 := c_layerAt_lt hq_1
    refine lv_astore_n (lv' := [(2, .ref (ad (100 + i_2))), (0, .ref (ad (0))), (1, .int (x))]) hx hb dX3_checkedLayer_5 rfl hl (by decide) rfl (fun ls hl => ?_)
    refine lv_aload_n hx hb dX3_checkedLayer_6 rfl (lv_at hl 0 rfl) ?_
    refine lv_ifnonnull (tgt := 20) hx hb dX3_checkedLayer_7 (by decide) ?_
    refine lv_aload_n hx hb dX3_checkedLayer_20 rfl (lv_at hl 0 rfl) ?_
    exact mt_ra S hr hk (Or.inr ⟨_, rfl⟩) hW hS (congrArg (a₂ := .inr i_2) (xr_n ad 100) (by rw [c_X3_checkedLayer, ocase_s hq_1])) (Nat.le_of_ble_eq_true rfl) (Nat.le_of_ble_eq_true rfl) dX3_checkedLayer_21
def c_X3_checkedMount (lc mc bc : Nat) (N G : Nat → Nat → Int32) (x : Int32) : String ⊕ Nat := ocase (c_X3_mountThere lc mc bc N G x) (.inl "java/lang/IndexOutOfBoundsException") (fun i_2 => .inr i_2)
set_option maxRecDepth 100000 in
set_option maxHeartbeats 4000000 in
theorem k_X3_checkedMount (l : Launch) (hlt : l.stackTraces = false) (g : mt_G) (z : Nat) (ad : Nat → Nat) (lc mc bc : Nat) (N G : Nat → Nat → Int32) (o : Nat → Int64) (d : mt_D) (h6 : lc ≤ 6) (h8 : mc ≤ 8) (hb6 : bc ≤ 6) (x : Int32)  : mt_K l g z yX3_checkedMount cX3_checkedMount 3 (some (.object "MountTable$Mount")) 6 82 1 6 [.ref (ad (0)), .int x] (mt_wc g ad lc mc bc N G o d) ad (xr_n ad 150 (c_X3_checkedMount lc mc bc N G x)) (mt_wc g ad lc mc bc N G o d) ad := by
  refine mt_ofW (by decide +kernel) (Nat.le_of_ble_eq_true rfl) ?_
  intro p e s m args below meth c S hr9 hk hnm hout hC hW hS ls hl
  have hr := hr9
  have hx := S.1
  have hb := S.2.1
  have hl : lv_has ls 3 [(0, .ref (ad (0))), (1, .int (x))] := hl
  refine lv_aload_n hx hb dX3_checkedMount_0 rfl (lv_at hl 0 rfl) ?_
  refine lv_iload_n hx hb dX3_checkedMount_1 rfl (lv_at hl 1 rfl) ?_
  rcases hq_1 : (c_X3_mountThere lc mc bc N G x) with _ | i_2
  · refine mt_cV1 (v := .null) (As := [.int (x)]) (rest := []) S pv_X3_mountThere mw_ml_X3_101 (k_X3_mountThere l hlt g z ad lc mc bc N G o d h6 h8 hb6 x) hC hW hS wc_0 rfl rfl rfl hl.1 rfl (Nat.le_of_ble_eq_true rfl) dX3_checkedMount_2 ⟨(Nat.le_of_ble_eq_true rfl), (Nat.le_of_ble_eq_true rfl)⟩ ⟨(Nat.le_of_ble_eq_true rfl), (Nat.le_of_ble_eq_true rfl)⟩ (congrArg (a₂ := none) (xr_a ad 150) hq_1) (fun H locs hW hS => ?_)
    refine lv_astore_nN (lv' := [(2, .null), (0, .ref (ad (0))), (1, .int (x))]) hx hb dX3_checkedMount_5 rfl hl (by decide) rfl (fun ls hl => ?_)
    refine lv_aload_nN hx hb dX3_checkedMount_6 rfl (lv_at hl 0 rfl) ?_
    refine lv_ifnonnullN hx hb dX3_checkedMount_7 ?_
    exact mt_throwW S hlt mp_IOO (List.mem_of_getElem? (i := 5) rfl) hC hW hS hl.1 hout hk (congrArg (a₂ := .inl "java/lang/IndexOutOfBoundsException") (xr_n ad 150) (by rw [c_X3_checkedMount, ocase_n hq_1])) dX3_checkedMount_10 dX3_checkedMount_13 dX3_checkedMount_14 dX3_checkedMount_17 dX3_checkedMount_20 (Nat.le_of_ble_eq_true rfl) (Nat.le_of_ble_eq_true rfl) ⟨(Nat.le_of_ble_eq_true rfl), (Nat.le_of_ble_eq_true rfl)⟩ (Nat.le_of_ble_eq_true rfl) (Nat.le_of_ble_eq_true rfl)
  · refine mt_cV1 (v := .ref (ad (150 + i_2))) (As := [.int (x)]) (rest := []) S pv_X3_mountThere mw_ml_X3_101 (k_X3_mountThere l hlt g z ad lc mc bc N G o d h6 h8 hb6 x) hC hW hS wc_0 rfl rfl rfl hl.1 rfl (Nat.le_of_ble_eq_true rfl) dX3_checkedMount_2 ⟨(Nat.le_of_ble_eq_true rfl), (Nat.le_of_ble_eq_true rfl)⟩ ⟨(Nat.le_of_ble_eq_true rfl), (Nat.le_of_ble_eq_true rfl)⟩ (congrArg (a₂ := some i_2) (xr_a ad 150) hq_1) (fun H locs hW hS => ?_)
    have hi_i_2 := c_mountThere_lt hq_1
    refine lv_astore_n (lv' := [(2, .ref (ad (150 + i_2))), (0, .ref (ad (0))), (1, .int (x))]) hx hb dX3_checkedMount_5 rfl hl (by decide) rfl (fun ls hl => ?_)
    refine lv_aload_n hx hb dX3_checkedMount_6 rfl (lv_at hl 0 rfl) ?_
    refine lv_ifnonnull (tgt := 21) hx hb dX3_checkedMount_7 (by decide) ?_
    refine lv_aload_n hx hb dX3_checkedMount_21 rfl (lv_at hl 0 rfl) ?_
    exact mt_ra S hr hk (Or.inr ⟨_, rfl⟩) hW hS (congrArg (a₂ := .inr i_2) (xr_n ad 150) (by rw [c_X3_checkedMount, ocase_s hq_1])) (Nat.le_of_ble_eq_true rfl) (Nat.le_of_ble_eq_true rfl) dX3_checkedMount_22
def c_X3_checkedBackup (lc mc bc : Nat) (N G : Nat → Nat → Int32) (x : Int32) : String ⊕ Nat := if x < 0 then (.inl "java/lang/IndexOutOfBoundsException") else (if 6 ≤ x then (.inl "java/lang/IndexOutOfBoundsException") else (if x.toNatClampNeg < bc then (.inr x.toNatClampNeg) else (.inl "java/lang/IndexOutOfBoundsException")))
set_option maxRecDepth 100000 in
set_option maxHeartbeats 4000000 in
theorem k_X3_checkedBackup (l : Launch) (hlt : l.stackTraces = false) (g : mt_G) (z : Nat) (ad : Nat → Nat) (lc mc bc : Nat) (N G : Nat → Nat → Int32) (o : Nat → Int64) (d : mt_D) (h6 : lc ≤ 6) (h8 : mc ≤ 8) (hb6 : bc ≤ 6) (x : Int32)  : mt_K l g z yX3_checkedBackup cX3_checkedBackup 3 (some (.object "MountTable$Backup")) 6 82 1 6 [.ref (ad (0)), .int x] (mt_wc g ad lc mc bc N G o d) ad (xr_n ad 160 (c_X3_checkedBackup lc mc bc N G x)) (mt_wc g ad lc mc bc N G o d) ad := by
  refine mt_ofW (by decide +kernel) (Nat.le_of_ble_eq_true rfl) ?_
  intro p e s m args below meth c S hr9 hk hnm hout hC hW hS ls hl
  have hr := hr9
  have hx := S.1
  have hb := S.2.1
  have hl : lv_has ls 3 [(0, .ref (ad (0))), (1, .int (x))] := hl
  refine lv_iload_n hx hb dX3_checkedBackup_0 rfl (lv_at hl 1 rfl) ?_
  refine lv_if_lt (tgt := 22) hx hb dX3_checkedBackup_1 (by decide) (fun c_1 => ?_) (fun c_1 => ?_)
  · refine lv_null hx hb dX3_checkedBackup_22 ?_
    refine lv_astore_nN (lv' := [(2, .null), (0, .ref (ad (0))), (1, .int (x))]) hx hb dX3_checkedBackup_23 rfl hl (by decide) rfl (fun ls hl => ?_)
    refine lv_aload_nN hx hb dX3_checkedBackup_24 rfl (lv_at hl 0 rfl) ?_
    refine lv_ifnonnullN hx hb dX3_checkedBackup_25 ?_
    exact mt_throwW S hlt mp_IOO (List.mem_of_getElem? (i := 18) rfl) hC hW hS hl.1 hout hk (congrArg (a₂ := .inl "java/lang/IndexOutOfBoundsException") (xr_n ad 160) (by rw [c_X3_checkedBackup, if_pos c_1])) dX3_checkedBackup_28 dX3_checkedBackup_31 dX3_checkedBackup_32 dX3_checkedBackup_35 dX3_checkedBackup_38 (Nat.le_of_ble_eq_true rfl) (Nat.le_of_ble_eq_true rfl) ⟨(Nat.le_of_ble_eq_true rfl), (Nat.le_of_ble_eq_true rfl)⟩ (Nat.le_of_ble_eq_true rfl) (Nat.le_of_ble_eq_true rfl)
  · refine lv_iload_n hx hb dX3_checkedBackup_4 rfl (lv_at hl 1 rfl) ?_
    refine lv_aload_n hx hb dX3_checkedBackup_5 rfl (lv_at hl 0 rfl) ?_
    refine mt_get S iw_X3 hC hW wc_0 rfl 2 (by decide) mw_fl_X3_23 rfl rfl dX3_checkedBackup_6 ?_
    refine mt_alen S hC hW 4 rfl wc_3 (v := 6) rfl dX3_checkedBackup_9 ?_
    refine lv_icmp_ge (tgt := 22) hx hb dX3_checkedBackup_10 (by decide) (fun c_2 => ?_) (fun c_2 => ?_)
    · refine lv_null hx hb dX3_checkedBackup_22 ?_
      refine lv_astore_nN (lv' := [(2, .null), (0, .ref (ad (0))), (1, .int (x))]) hx hb dX3_checkedBackup_23 rfl hl (by decide) rfl (fun ls hl => ?_)
      refine lv_aload_nN hx hb dX3_checkedBackup_24 rfl (lv_at hl 0 rfl) ?_
      refine lv_ifnonnullN hx hb dX3_checkedBackup_25 ?_
      exact mt_throwW S hlt mp_IOO (List.mem_of_getElem? (i := 18) rfl) hC hW hS hl.1 hout hk (congrArg (a₂ := .inl "java/lang/IndexOutOfBoundsException") (xr_n ad 160) (by rw [c_X3_checkedBackup, if_neg c_1, if_pos c_2])) dX3_checkedBackup_28 dX3_checkedBackup_31 dX3_checkedBackup_32 dX3_checkedBackup_35 dX3_checkedBackup_38 (Nat.le_of_ble_eq_true rfl) (Nat.le_of_ble_eq_true rfl) ⟨(Nat.le_of_ble_eq_true rfl), (Nat.le_of_ble_eq_true rfl)⟩ (Nat.le_of_ble_eq_true rfl) (Nat.le_of_ble_eq_true rfl)
    · refine lv_aload_n hx hb dX3_checkedBackup_13 rfl (lv_at hl 0 rfl) ?_
      refine mt_get S iw_X3 hC hW wc_0 rfl 2 (by decide) mw_fl_X3_23 rfl rfl dX3_checkedBackup_14 ?_
      refine lv_iload_n hx hb dX3_checkedBackup_17 rfl (lv_at hl 1 rfl) ?_
      refine wk_aald S hC hW 4 rfl wc_3 (vin (n := 6) c_1 c_2) dX3_checkedBackup_18 (fun hm_3 => ?_) (fun hm_3 => ?_)
      · refine lv_goto (tgt := 23) hx hb dX3_checkedBackup_19 (by decide) ?_
        refine lv_astore_n (lv' := [(2, .ref (ad (160 + x.toNatClampNeg))), (0, .ref (ad (0))), (1, .int (x))]) hx hb dX3_checkedBackup_23 rfl hl (by decide) rfl (fun ls hl => ?_)
        refine lv_aload_n hx hb dX3_checkedBackup_24 rfl (lv_at hl 0 rfl) ?_
        refine lv_ifnonnull (tgt := 39) hx hb dX3_checkedBackup_25 (by decide) ?_
        refine lv_aload_n hx hb dX3_checkedBackup_39 rfl (lv_at hl 0 rfl) ?_
        exact mt_ra S hr hk (Or.inr ⟨_, rfl⟩) hW hS (congrArg (a₂ := .inr x.toNatClampNeg) (xr_n ad 160) (by rw [c_X3_checkedBackup, if_neg c_1, if_neg c_2, if_pos hm_3])) (Nat.le_of_ble_eq_true rfl) (Nat.le_of_ble_eq_true rfl) dX3_checkedBackup_40
      · refine lv_goto (tgt := 23) hx hb dX3_checkedBackup_19 (by decide) ?_
        refine lv_astore_nN (lv' := [(2, .null), (0, .ref (ad (0))), (1, .int (x))]) hx hb dX3_checkedBackup_23 rfl hl (by decide) rfl (fun ls hl => ?_)
        refine lv_aload_nN hx hb dX3_checkedBackup_24 rfl (lv_at hl 0 rfl) ?_
        refine lv_ifnonnullN hx hb dX3_checkedBackup_25 ?_
        exact mt_throwW S hlt mp_IOO (List.mem_of_getElem? (i := 18) rfl) hC hW hS hl.1 hout hk (congrArg (a₂ := .inl "java/lang/IndexOutOfBoundsException") (xr_n ad 160) (by rw [c_X3_checkedBackup, if_neg c_1, if_neg c_2, if_neg hm_3])) dX3_checkedBackup_28 dX3_checkedBackup_31 dX3_checkedBackup_32 dX3_checkedBackup_35 dX3_checkedBackup_38 (Nat.le_of_ble_eq_true rfl) (Nat.le_of_ble_eq_true rfl) ⟨(Nat.le_of_ble_eq_true rfl), (Nat.le_of_ble_eq_true rfl)⟩ (Nat.le_of_ble_eq_true rfl) (Nat.le_of_ble_eq_true rfl)
theorem c_checkedLayer_lt {lc mc bc : Nat} {N G : Nat → Nat → Int32} {x : Int32} {i : Nat} (h : c_X3_checkedLayer lc mc bc N G x = .inr i) : i < lc := by
  unfold c_X3_checkedLayer at h
  cases hq : c_X3_layerAt lc mc bc N G x with
  | none => rw [ocase_n hq] at h; cases h
  | some j => rw [ocase_s hq] at h; cases h; exact c_layerAt_lt hq
theorem c_checkedMount_lt {lc mc bc : Nat} {N G : Nat → Nat → Int32} {x : Int32} {i : Nat} (h : c_X3_checkedMount lc mc bc N G x = .inr i) : i < mc := by
  unfold c_X3_checkedMount at h
  cases hq : c_X3_mountThere lc mc bc N G x with
  | none => rw [ocase_n hq] at h; cases h
  | some j => rw [ocase_s hq] at h; cases h; exact c_mountThere_lt hq
theorem c_checkedBackup_lt {lc mc bc : Nat} {N G : Nat → Nat → Int32} {x : Int32} {i : Nat} (h : c_X3_checkedBackup lc mc bc N G x = .inr i) : i < bc := by
  unfold c_X3_checkedBackup at h
  repeat' split at h
  all_goals first | (cases h; done) | (cases h; assumption)

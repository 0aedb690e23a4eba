def r_end (lc mc bc : Nat) (N G : Nat → Nat → Int32) : Nat → Int32 → Int32 × Int32
  | 0, a => if c_X4_shown lc mc bc N G a = -1 then (a, 0) else if G 201 (c_X4_shown lc mc bc N G a).toNatClampNeg = 2 then (if c_X4_servedBy lc mc bc N G (G 203 (c_X4_shown lc mc bc N G a).toNatClampNeg) = c_X4_servedBy lc mc bc N G a ∨ ¬ G 209 (c_X4_servedBy lc mc bc N G a).toNatClampNeg = 0 then (-1, 3) else (-1, 2)) else (a, 0)
  | n + 1, a => if c_X4_shown lc mc bc N G a = -1 then (a, 0) else if G 201 (c_X4_shown lc mc bc N G a).toNatClampNeg = 2 then (if c_X4_servedBy lc mc bc N G (G 203 (c_X4_shown lc mc bc N G a).toNatClampNeg) = c_X4_servedBy lc mc bc N G a ∨ ¬ G 209 (c_X4_servedBy lc mc bc N G a).toNatClampNeg = 0 then r_end lc mc bc N G n (G 203 (c_X4_shown lc mc bc N G a).toNatClampNeg) else (-1, 2)) else (a, 0)
def c_en_at (lc mc bc : Nat) (N G : Nat → Nat → Int32) (x : Int32) : Nat → Int32
  | 0 => x
  | k + 1 => G 203 (c_X4_shown lc mc bc N G (c_en_at lc mc bc N G x k)).toNatClampNeg
def en_r (lc mc bc : Nat) (N G : Nat → Nat → Int32) (x : Int32) : Int32 × Int32 := if c_X4_isPath x = 0 then (-1, 1) else r_end lc mc bc N G 4 x
section EN
variable {lc mc bc : Nat} {N G : Nat → Nat → Int32} {x a : Int32} {n : Nat}
theorem en_1 (h : c_X4_shown lc mc bc N G a = -1) : r_end lc mc bc N G n a = (a, 0) := by cases n <;> (rw [r_end]; exact if_pos h)
theorem en_2 (h : ¬ c_X4_shown lc mc bc N G a = -1) (h2 : ¬ G 201 (c_X4_shown lc mc bc N G a).toNatClampNeg = 2) : r_end lc mc bc N G n a = (a, 0) := by cases n <;> (rw [r_end, if_neg h]; exact if_neg h2)
theorem en_3 (h : ¬ c_X4_shown lc mc bc N G a = -1) (h2 : G 201 (c_X4_shown lc mc bc N G a).toNatClampNeg = 2) (h3 : ¬ c_X4_servedBy lc mc bc N G (G 203 (c_X4_shown lc mc bc N G a).toNatClampNeg) = c_X4_servedBy lc mc bc N G a) (h4 : G 209 (c_X4_servedBy lc mc bc N G a).toNatClampNeg = 0) : r_end lc mc bc N G n a = (-1, 2) := by
  cases n <;> (rw [r_end, if_neg h, if_pos h2]; exact if_neg (fun q => q.elim h3 (fun q => q h4)))
theorem en_4 (h : ¬ c_X4_shown lc mc bc N G a = -1) (h2 : G 201 (c_X4_shown lc mc bc N G a).toNatClampNeg = 2) (h3 : c_X4_servedBy lc mc bc N G (G 203 (c_X4_shown lc mc bc N G a).toNatClampNeg) = c_X4_servedBy lc mc bc N G a ∨ ¬ G 209 (c_X4_servedBy lc mc bc N G a).toNatClampNeg = 0) : r_end lc mc bc N G 0 a = (-1, 3) := by
  rw [r_end, if_neg h, if_pos h2]; exact if_pos h3
theorem en_5 (h : ¬ c_X4_shown lc mc bc N G a = -1) (h2 : G 201 (c_X4_shown lc mc bc N G a).toNatClampNeg = 2) (h3 : c_X4_servedBy lc mc bc N G (G 203 (c_X4_shown lc mc bc N G a).toNatClampNeg) = c_X4_servedBy lc mc bc N G a ∨ ¬ G 209 (c_X4_servedBy lc mc bc N G a).toNatClampNeg = 0) : r_end lc mc bc N G (n + 1) a = r_end lc mc bc N G n (G 203 (c_X4_shown lc mc bc N G a).toNatClampNeg) := by
  rw [r_end, if_neg h, if_pos h2]; exact if_pos h3
theorem en_s {k : Nat} (hk : k < 4) (h : ¬ c_X4_shown lc mc bc N G (c_en_at lc mc bc N G x k) = -1) (h2 : G 201 (c_X4_shown lc mc bc N G (c_en_at lc mc bc N G x k)).toNatClampNeg = 2) (h3 : c_X4_servedBy lc mc bc N G (G 203 (c_X4_shown lc mc bc N G (c_en_at lc mc bc N G x k)).toNatClampNeg) = c_X4_servedBy lc mc bc N G (c_en_at lc mc bc N G x k) ∨ ¬ G 209 (c_X4_servedBy lc mc bc N G (c_en_at lc mc bc N G x k)).toNatClampNeg = 0) : r_end lc mc bc N G (4 - k) (c_en_at lc mc bc N G x k) = r_end lc mc bc N G (4 - (k + 1)) (c_en_at lc mc bc N G x (k + 1)) := by
  rw [show 4 - k = (4 - (k + 1)) + 1 by omega, en_5 h h2 h3]; rfl
theorem MI_ln (hM : MI N G) (hx : IsP a) (h : ¬ c_X4_shown lc mc bc N G a = -1) (h2 : G 201 (c_X4_shown lc mc bc N G a).toNatClampNeg = 2) : IsP (G 203 (c_X4_shown lc mc bc N G a).toNatClampNeg) := by
  obtain ⟨j, ⟨h3, h4⟩, -⟩ := sh_at hM hx h
  rw [h4, nI_clamp (by omega)] at h2 ⊢
  exact hM.2.2.2.2.2.2.2.2 j h3 h2
theorem r_end_P (hM : MI N G) (n : Nat) : ∀ a, IsP a → (r_end lc mc bc N G n a).2 ≤ 0 → IsP (r_end lc mc bc N G n a).1 := by
  induction n with
  | zero =>
    intro a ha h
    by_cases h1 : c_X4_shown lc mc bc N G a = -1
    · rw [en_1 h1]; exact ha
    · by_cases h2 : G 201 (c_X4_shown lc mc bc N G a).toNatClampNeg = 2
      · by_cases h3 : c_X4_servedBy lc mc bc N G (G 203 (c_X4_shown lc mc bc N G a).toNatClampNeg) = c_X4_servedBy lc mc bc N G a ∨ ¬ G 209 (c_X4_servedBy lc mc bc N G a).toNatClampNeg = 0
        · rw [en_4 h1 h2 h3] at h; exact absurd h (by decide)
        · rw [en_3 h1 h2 (fun q => h3 (Or.inl q)) (Decidable.byContradiction fun q => h3 (Or.inr q))] at h; exact absurd h (by decide)
      · rw [en_2 h1 h2]; exact ha
  | succ n ih =>
    intro a ha h
    by_cases h1 : c_X4_shown lc mc bc N G a = -1
    · rw [en_1 h1]; exact ha
    · by_cases h2 : G 201 (c_X4_shown lc mc bc N G a).toNatClampNeg = 2
      · by_cases h3 : c_X4_servedBy lc mc bc N G (G 203 (c_X4_shown lc mc bc N G a).toNatClampNeg) = c_X4_servedBy lc mc bc N G a ∨ ¬ G 209 (c_X4_servedBy lc mc bc N G a).toNatClampNeg = 0
        · rw [en_5 h1 h2 h3] at h ⊢; exact ih _ (MI_ln hM ha h1 h2) h
        · rw [en_3 h1 h2 (fun q => h3 (Or.inl q)) (Decidable.byContradiction fun q => h3 (Or.inr q))] at h; exact absurd h (by decide)
      · rw [en_2 h1 h2]; exact ha
end EN
theorem en_P {lc mc bc : Nat} {N G : Nat → Nat → Int32} {x : Int32} (hM : MI N G) (h : (en_r lc mc bc N G x).2 ≤ 0) : IsP (en_r lc mc bc N G x).1 := by
  unfold en_r at h ⊢
  by_cases h1 : c_X4_isPath x = 0
  · rw [if_pos h1] at h; exact absurd h (by decide)
  · rw [if_neg h1] at h ⊢; exact r_end_P hM 4 x (isP_of h1) h
def c_X4_end (lc mc bc : Nat) (N G : Nat → Nat → Int32) (x : Int32) : Int32 := (en_r lc mc bc N G x).1
set_option maxRecDepth 100000 in
set_option maxHeartbeats 4000000 in
theorem k_X4_end (l : Launch) (hlt : l.stackTraces = false) (g : mt_G) (z : Nat) (ad : Nat → Nat) (lc mc bc : Nat) (N G : Nat → Nat → Int32) (o : Nat → Int64) (d : mt_D) (h6 : lc ≤ 6) (h8 : mc ≤ 8) (hb6 : bc ≤ 6) (x : Int32) (hM : MI N G) : mt_K l g z yX4_end cX4_end 6 (some .int) 4 93 0 0 [.ref (ad (200)), .int x] (mt_wc g ad lc mc bc N G o d) ad (.inr (some (.int (c_X4_end lc mc bc N G x)))) (mt_wc g ad lc mc bc (mt_gu N 200 15 (en_r lc mc bc N G x).2) G o d) ad := by
  refine mt_ofW (by decide +kernel) (Nat.le_of_ble_eq_true rfl) ?_
  intro p e s m args below meth c S hr9 hk hnm hout hC hW hS ls hl
  have hr := hr9
  have hx := S.1
  have hb := S.2.1
  have hl : lv_has ls 6 [(0, .ref (ad (200))), (1, .int (x))] := hl
  refine lv_aload_n hx hb dX4_end_0 rfl (lv_at hl 0 rfl) ?_
  refine lv_iload_n hx hb dX4_end_1 rfl (lv_at hl 1 rfl) ?_
  refine mt_cV1 (As := [.int (x)]) (rest := []) S pv_X4_asks mw_ml_X4_128 (k_X4_asks l hlt g z ad lc mc bc N G o d h6 h8 hb6 x) hC hW hS wc_200 rfl rfl rfl hl.1 rfl (Nat.le_of_ble_eq_true rfl) dX4_end_2 ⟨(Nat.le_of_ble_eq_true rfl), (Nat.le_of_ble_eq_true rfl)⟩ ⟨(Nat.le_of_ble_eq_true rfl), (Nat.le_of_ble_eq_true rfl)⟩ rfl (fun H locs hW hS => ?_)
  by_cases cf_1 : c_X4_isPath x = 0
  · refine mt_te (y := 0) (by rw [show c_X4_asks lc mc bc N G x = (if c_X4_isPath x = 0 then 0 else 1) from rfl, if_pos cf_1]) ?_
    have hW := hW.to (w1 := mt_wc g ad lc mc bc (mt_gu N 200 15 1) G o d) (by rw [if_pos cf_1])
    refine lv_if_ne (tgt := 10) hx hb dX4_end_5 (by decide) (fun c_2 => absurd (by decide) c_2) (fun c_2 => ?_)
    refine lv_iconst (v := -1) hx hb dX4_end_8 (by decide) ?_
    have hW := hW.to (w1 := mt_wc g ad lc mc bc (mt_gu N 200 15 (en_r lc mc bc N G x).2) G o d) (by rw [en_r, if_pos cf_1])
    exact mt_ri S hr hk hW hS (by rw [c_X4_end, en_r, if_pos cf_1]) (Nat.le_of_ble_eq_true rfl) (Nat.le_of_ble_eq_true rfl) dX4_end_9
  · refine mt_te (y := 1) (by rw [show c_X4_asks lc mc bc N G x = (if c_X4_isPath x = 0 then 0 else 1) from rfl, if_neg cf_1]) ?_
    have hW := hW.to (w1 := mt_wc g ad lc mc bc (mt_gu N 200 15 0) G o d) (by rw [if_neg cf_1])
    refine lv_if_ne (tgt := 10) hx hb dX4_end_5 (by decide) (fun c_3 => ?_) (fun c_3 => absurd c_3 (by decide))
    refine lv_iload_n hx hb dX4_end_10 rfl (lv_at hl 1 rfl) ?_
    refine lv_istore_n (lv' := [(2, .int (x)), (0, .ref (ad (200))), (1, .int (x))]) hx hb dX4_end_11 rfl hl (by decide) rfl (fun ls hl => ?_)
    refine lv_iconst (v := 0) hx hb dX4_end_12 (by decide) ?_
    refine lv_istore_n (lv' := [(3, .int (0)), (2, .int (x)), (0, .ref (ad (200))), (1, .int (x))]) hx hb dX4_end_13 rfl hl (by decide) rfl (fun ls hl => ?_)
    have hl : lv_has ls 6 [(3, .int (nI 0)), (2, .int (c_en_at lc mc bc N G x 0)), (0, .ref (ad (200))), (1, .int (x))] := lv_sub hl [0, 1, 2, 3] rfl
    refine lp_up 4 (fun k => mt_wc g ad lc mc bc (mt_gu N 200 15 0) G o d) (fun k => [(3, .int (nI k)), (2, .int (c_en_at lc mc bc N G x k)), (0, .ref (ad (200))), (1, .int (x))]) (fun k => r_end lc mc bc N G 4 x = r_end lc mc bc N G (4 - k) (c_en_at lc mc bc N G x k) ∧ IsP (c_en_at lc mc bc N G x k)) 0 (by omega) ⟨rfl, isP_of cf_1⟩ hW hS hl (fun H locs ls hP hW hS hl => ?_) (fun k H locs ls hk0 hkn hP hW hS hl ih => ?_)
    · have hW : mt_W g z (mt_wc g ad lc mc bc (mt_gu N 200 15 0) G o d) ad _ := hW
      have hl : lv_has ls 6 [(3, .int (nI 4)), (2, .int (c_en_at lc mc bc N G x 4)), (0, .ref (ad (200))), (1, .int (x))] := hl
      have hP : r_end lc mc bc N G 4 x = r_end lc mc bc N G (4 - 4) (c_en_at lc mc bc N G x 4) ∧ IsP (c_en_at lc mc bc N G x 4) := hP
      refine lv_aload_n hx hb dX4_end_14 rfl (lv_at hl 2 rfl) ?_
      refine lv_iload_n hx hb dX4_end_15 rfl (lv_at hl 1 rfl) ?_
      refine mt_cV1 (As := [.int (c_en_at lc mc bc N G x 4)]) (rest := []) S pv_X4_shown mw_ml_X4_107 (k_X4_shown l hlt g z ad lc mc bc (mt_gu N 200 15 0) G o d h6 h8 hb6 (c_en_at lc mc bc N G x 4) (by repeat (first | exact hM | exact hP | apply MI_t)) hP.2) hC hW hS wc_200 rfl rfl rfl hl.1 rfl (Nat.le_of_ble_eq_true rfl) dX4_end_16 ⟨(Nat.le_of_ble_eq_true rfl), (Nat.le_of_ble_eq_true rfl)⟩ ⟨(Nat.le_of_ble_eq_true rfl), (Nat.le_of_ble_eq_true rfl)⟩ rfl (fun H locs hW hS => ?_)
      refine mt_te (y := c_X4_shown lc mc bc N G (c_en_at lc mc bc N G x 4)) rfl ?_
      refine lv_iconst (v := -1) hx hb dX4_end_19 (by decide) ?_
      refine lv_icmp_eq (tgt := 124) hx hb dX4_end_20 (by decide) (fun c_4 => ?_) (fun c_4 => ?_)
      · refine lv_iload_n hx hb dX4_end_124 rfl (lv_at hl 1 rfl) ?_
        have hW := hW.to (w1 := mt_wc g ad lc mc bc (mt_gu N 200 15 (en_r lc mc bc N G x).2) G o d) (by rw [en_r, if_neg cf_1, hP.1, Nat.sub_self, en_1 c_4])
        exact mt_ri S hr hk hW hS (by rw [c_X4_end, en_r, if_neg cf_1, hP.1, Nat.sub_self, en_1 c_4]) (Nat.le_of_ble_eq_true rfl) (Nat.le_of_ble_eq_true rfl) dX4_end_125
      · refine lv_aload_n hx hb dX4_end_23 rfl (lv_at hl 2 rfl) ?_
        refine mt_get S iw_X4 hC hW wc_200 rfl 0 (by decide) mw_fl_X4_7 rfl rfl dX4_end_24 ?_
        refine lv_aload_n hx hb dX4_end_27 rfl (lv_at hl 2 rfl) ?_
        refine lv_iload_n hx hb dX4_end_28 rfl (lv_at hl 1 rfl) ?_
        refine mt_cV1 (As := [.int (c_en_at lc mc bc N G x 4)]) (rest := [.ref (ad (201))]) S pv_X4_shown mw_ml_X4_107 (k_X4_shown l hlt g z ad lc mc bc (mt_gu N 200 15 0) G o d h6 h8 hb6 (c_en_at lc mc bc N G x 4) (by repeat (first | exact hM | exact hP | apply MI_t)) hP.2) hC hW hS wc_200 rfl rfl rfl hl.1 rfl (Nat.le_of_ble_eq_true rfl) dX4_end_29 ⟨(Nat.le_of_ble_eq_true rfl), (Nat.le_of_ble_eq_true rfl)⟩ ⟨(Nat.le_of_ble_eq_true rfl), (Nat.le_of_ble_eq_true rfl)⟩ rfl (fun H locs hW hS => ?_)
        refine mt_te (y := c_X4_shown lc mc bc N G (c_en_at lc mc bc N G x 4)) rfl ?_
        refine wk_iald S hC hW ar_201 (sh_in hM hP.2 c_4) dX4_end_32 ?_
        refine lv_iconst (v := 2) hx hb dX4_end_33 (by decide) ?_
        refine lv_icmp_ne (tgt := 124) hx hb dX4_end_34 (by decide) (fun c_5 => ?_) (fun c_5 => ?_)
        · refine lv_iload_n hx hb dX4_end_124 rfl (lv_at hl 1 rfl) ?_
          have hW := hW.to (w1 := mt_wc g ad lc mc bc (mt_gu N 200 15 (en_r lc mc bc N G x).2) G o d) (by rw [en_r, if_neg cf_1, hP.1, Nat.sub_self, en_2 c_4 c_5])
          exact mt_ri S hr hk hW hS (by rw [c_X4_end, en_r, if_neg cf_1, hP.1, Nat.sub_self, en_2 c_4 c_5]) (Nat.le_of_ble_eq_true rfl) (Nat.le_of_ble_eq_true rfl) dX4_end_125
        · refine lv_aload_n hx hb dX4_end_37 rfl (lv_at hl 2 rfl) ?_
          refine mt_get S iw_X4 hC hW wc_200 rfl 2 (by decide) mw_fl_X4_16 rfl rfl dX4_end_38 ?_
          refine lv_aload_n hx hb dX4_end_41 rfl (lv_at hl 2 rfl) ?_
          refine lv_iload_n hx hb dX4_end_42 rfl (lv_at hl 1 rfl) ?_
          refine mt_cV1 (As := [.int (c_en_at lc mc bc N G x 4)]) (rest := [.ref (ad (203))]) S pv_X4_shown mw_ml_X4_107 (k_X4_shown l hlt g z ad lc mc bc (mt_gu N 200 15 0) G o d h6 h8 hb6 (c_en_at lc mc bc N G x 4) (by repeat (first | exact hM | exact hP | apply MI_t)) hP.2) hC hW hS wc_200 rfl rfl rfl hl.1 rfl (Nat.le_of_ble_eq_true rfl) dX4_end_43 ⟨(Nat.le_of_ble_eq_true rfl), (Nat.le_of_ble_eq_true rfl)⟩ ⟨(Nat.le_of_ble_eq_true rfl), (Nat.le_of_ble_eq_true rfl)⟩ rfl (fun H locs hW hS => ?_)
          refine mt_te (y := c_X4_shown lc mc bc N G (c_en_at lc mc bc N G x 4)) rfl ?_
          refine wk_iald S hC hW ar_203 (sh_in hM hP.2 c_4) dX4_end_46 ?_
          refine lv_istore (lv' := [(4, .int (G 203 (c_X4_shown lc mc bc N G (c_en_at lc mc bc N G x 4)).toNatClampNeg)), (3, .int (nI 4)), (2, .int (c_en_at lc mc bc N G x 4)), (0, .ref (ad (200))), (1, .int (x))]) hx hb dX4_end_47 hl (by decide) rfl (fun ls hl => ?_)
          refine lv_aload_n hx hb dX4_end_49 rfl (lv_at hl 3 rfl) ?_
          refine lv_iload hx hb dX4_end_50 (lv_at hl 0 rfl) ?_
          refine mt_cV1 (As := [.int (G 203 (c_X4_shown lc mc bc N G (c_en_at lc mc bc N G x 4)).toNatClampNeg)]) (rest := []) S pv_X4_servedBy mw_ml_X4_90 (k_X4_servedBy l hlt g z ad lc mc bc (mt_gu N 200 15 0) G o d h6 h8 hb6 (G 203 (c_X4_shown lc mc bc N G (c_en_at lc mc bc N G x 4)).toNatClampNeg) (by repeat (first | exact hM | exact hP | apply MI_t)) (MI_ln hM hP.2 c_4 c_5)) hC hW hS wc_200 rfl rfl rfl hl.1 rfl (Nat.le_of_ble_eq_true rfl) dX4_end_52 ⟨(Nat.le_of_ble_eq_true rfl), (Nat.le_of_ble_eq_true rfl)⟩ ⟨(Nat.le_of_ble_eq_true rfl), (Nat.le_of_ble_eq_true rfl)⟩ rfl (fun H locs hW hS => ?_)
          refine mt_te (y := c_X4_servedBy lc mc bc N G (G 203 (c_X4_shown lc mc bc N G (c_en_at lc mc bc N G x 4)).toNatClampNeg)) rfl ?_
          refine lv_aload_n hx hb dX4_end_55 rfl (lv_at hl 3 rfl) ?_
          refine lv_iload_n hx hb dX4_end_56 rfl (lv_at hl 2 rfl) ?_
          refine mt_cV1 (As := [.int (c_en_at lc mc bc N G x 4)]) (rest := [.int (c_X4_servedBy lc mc bc N G (G 203 (c_X4_shown lc mc bc N G (c_en_at lc mc bc N G x 4)).toNatClampNeg))]) S pv_X4_servedBy mw_ml_X4_90 (k_X4_servedBy l hlt g z ad lc mc bc (mt_gu N 200 15 0) G o d h6 h8 hb6 (c_en_at lc mc bc N G x 4) (by repeat (first | exact hM | exact hP | apply MI_t)) hP.2) hC hW hS wc_200 rfl rfl rfl hl.1 rfl (Nat.le_of_ble_eq_true rfl) dX4_end_57 ⟨(Nat.le_of_ble_eq_true rfl), (Nat.le_of_ble_eq_true rfl)⟩ ⟨(Nat.le_of_ble_eq_true rfl), (Nat.le_of_ble_eq_true rfl)⟩ rfl (fun H locs hW hS => ?_)
          refine mt_te (y := c_X4_servedBy lc mc bc N G (c_en_at lc mc bc N G x 4)) rfl ?_
          refine lv_icmp_eq (tgt := 76) hx hb dX4_end_60 (by decide) (fun c_6 => ?_) (fun c_6 => ?_)
          · refine lv_iconst (v := 1) hx hb dX4_end_76 (by decide) ?_
            refine lv_goto (tgt := 81) hx hb dX4_end_77 (by decide) ?_
            refine lv_istore (lv' := [(5, .int (1)), (4, .int (G 203 (c_X4_shown lc mc bc N G (c_en_at lc mc bc N G x 4)).toNatClampNeg)), (3, .int (nI 4)), (2, .int (c_en_at lc mc bc N G x 4)), (0, .ref (ad (200))), (1, .int (x))]) hx hb dX4_end_81 hl (by decide) rfl (fun ls hl => ?_)
            refine lv_aload_n hx hb dX4_end_83 rfl (lv_at hl 4 rfl) ?_
            refine lv_iload hx hb dX4_end_84 (lv_at hl 0 rfl) ?_
            refine lv_if_ne (tgt := 93) hx hb dX4_end_86 (by decide) (fun c_7 => ?_) (fun c_7 => absurd c_7 (by decide))
            refine lv_iload_n hx hb dX4_end_93 rfl (lv_at hl 2 rfl) ?_
            refine lv_iconst (v := 4) hx hb dX4_end_94 (by decide) ?_
            refine lv_icmp_ne (tgt := 102) hx hb dX4_end_95 (by decide) (fun c_8 => absurd (by decide) c_8) (fun c_8 => ?_)
            refine lv_iconst (v := 3) hx hb dX4_end_98 (by decide) ?_
            refine lv_goto (tgt := 103) hx hb dX4_end_99 (by decide) ?_
            refine mt_put S iw_X4 tyX4 tyX4_ok nmX4 hC hW hS wc_200 rfl 15 (by decide) mw_fl_X4_44 rfl rfl rfl rfl (Nat.le_of_ble_eq_true rfl) dX4_end_103 (fun H locs hW hS => ?_)
            have hW := hW.to (w1 := mt_wc g ad lc mc bc (mt_gu N 200 15 3) G o d) ((wc_sett (by decide)).trans (by rw [mt_gu2]))
            refine lv_aload_n hx hb dX4_end_106 rfl (lv_at hl 4 rfl) ?_
            refine mt_get S iw_X4 hC hW wc_200 rfl 15 (by decide) mw_fl_X4_44 rfl rfl dX4_end_107 ?_
            refine mt_te (y := 3) rfl ?_
            refine lv_if_le (tgt := 115) hx hb dX4_end_110 (by decide) (fun c_9 => absurd c_9 (by decide)) (fun c_9 => ?_)
            refine lv_iconst (v := -1) hx hb dX4_end_113 (by decide) ?_
            have hW := hW.to (w1 := mt_wc g ad lc mc bc (mt_gu N 200 15 (en_r lc mc bc N G x).2) G o d) (by rw [en_r, if_neg cf_1, hP.1, Nat.sub_self, en_4 c_4 c_5 (Or.inl c_6)])
            exact mt_ri S hr hk hW hS (by rw [c_X4_end, en_r, if_neg cf_1, hP.1, Nat.sub_self, en_4 c_4 c_5 (Or.inl c_6)]) (Nat.le_of_ble_eq_true rfl) (Nat.le_of_ble_eq_true rfl) dX4_end_114
          · refine lv_aload_n hx hb dX4_end_63 rfl (lv_at hl 3 rfl) ?_
            refine mt_get S iw_X4 hC hW wc_200 rfl 8 (by decide) mw_fl_X4_32 rfl rfl dX4_end_64 ?_
            refine lv_aload_n hx hb dX4_end_67 rfl (lv_at hl 3 rfl) ?_
            refine lv_iload_n hx hb dX4_end_68 rfl (lv_at hl 2 rfl) ?_
            refine mt_cV1 (As := [.int (c_en_at lc mc bc N G x 4)]) (rest := [.ref (ad (209))]) S pv_X4_servedBy mw_ml_X4_90 (k_X4_servedBy l hlt g z ad lc mc bc (mt_gu N 200 15 0) G o d h6 h8 hb6 (c_en_at lc mc bc N G x 4) (by repeat (first | exact hM | exact hP | apply MI_t)) hP.2) hC hW hS wc_200 rfl rfl rfl hl.1 rfl (Nat.le_of_ble_eq_true rfl) dX4_end_69 ⟨(Nat.le_of_ble_eq_true rfl), (Nat.le_of_ble_eq_true rfl)⟩ ⟨(Nat.le_of_ble_eq_true rfl), (Nat.le_of_ble_eq_true rfl)⟩ rfl (fun H locs hW hS => ?_)
            refine mt_te (y := c_X4_servedBy lc mc bc N G (c_en_at lc mc bc N G x 4)) rfl ?_
            refine wk_zald S hC hW ar_209 (sb_in hM hP.2 (sh_s c_4)) dX4_end_72 ?_
            refine lv_if_eq (tgt := 80) hx hb dX4_end_73 (by decide) (fun c_10 => ?_) (fun c_10 => ?_)
            · refine lv_iconst (v := 0) hx hb dX4_end_80 (by decide) ?_
              refine lv_istore (lv' := [(5, .int (0)), (4, .int (G 203 (c_X4_shown lc mc bc N G (c_en_at lc mc bc N G x 4)).toNatClampNeg)), (3, .int (nI 4)), (2, .int (c_en_at lc mc bc N G x 4)), (0, .ref (ad (200))), (1, .int (x))]) hx hb dX4_end_81 hl (by decide) rfl (fun ls hl => ?_)
              refine lv_aload_n hx hb dX4_end_83 rfl (lv_at hl 4 rfl) ?_
              refine lv_iload hx hb dX4_end_84 (lv_at hl 0 rfl) ?_
              refine lv_if_ne (tgt := 93) hx hb dX4_end_86 (by decide) (fun c_11 => absurd (by decide) c_11) (fun c_11 => ?_)
              refine lv_iconst (v := 2) hx hb dX4_end_89 (by decide) ?_
              refine lv_goto (tgt := 103) hx hb dX4_end_90 (by decide) ?_
              refine mt_put S iw_X4 tyX4 tyX4_ok nmX4 hC hW hS wc_200 rfl 15 (by decide) mw_fl_X4_44 rfl rfl rfl rfl (Nat.le_of_ble_eq_true rfl) dX4_end_103 (fun H locs hW hS => ?_)
              have hW := hW.to (w1 := mt_wc g ad lc mc bc (mt_gu N 200 15 2) G o d) ((wc_sett (by decide)).trans (by rw [mt_gu2]))
              refine lv_aload_n hx hb dX4_end_106 rfl (lv_at hl 4 rfl) ?_
              refine mt_get S iw_X4 hC hW wc_200 rfl 15 (by decide) mw_fl_X4_44 rfl rfl dX4_end_107 ?_
              refine mt_te (y := 2) rfl ?_
              refine lv_if_le (tgt := 115) hx hb dX4_end_110 (by decide) (fun c_12 => absurd c_12 (by decide)) (fun c_12 => ?_)
              refine lv_iconst (v := -1) hx hb dX4_end_113 (by decide) ?_
              have hW := hW.to (w1 := mt_wc g ad lc mc bc (mt_gu N 200 15 (en_r lc mc bc N G x).2) G o d) (by rw [en_r, if_neg cf_1, hP.1, Nat.sub_self, en_3 c_4 c_5 c_6 c_10])
              exact mt_ri S hr hk hW hS (by rw [c_X4_end, en_r, if_neg cf_1, hP.1, Nat.sub_self, en_3 c_4 c_5 c_6 c_10]) (Nat.le_of_ble_eq_true rfl) (Nat.le_of_ble_eq_true rfl) dX4_end_114
            · refine lv_iconst (v := 1) hx hb dX4_end_76 (by decide) ?_
              refine lv_goto (tgt := 81) hx hb dX4_end_77 (by decide) ?_
              refine lv_istore (lv' := [(5, .int (1)), (4, .int (G 203 (c_X4_shown lc mc bc N G (c_en_at lc mc bc N G x 4)).toNatClampNeg)), (3, .int (nI 4)), (2, .int (c_en_at lc mc bc N G x 4)), (0, .ref (ad (200))), (1, .int (x))]) hx hb dX4_end_81 hl (by decide) rfl (fun ls hl => ?_)
              refine lv_aload_n hx hb dX4_end_83 rfl (lv_at hl 4 rfl) ?_
              refine lv_iload hx hb dX4_end_84 (lv_at hl 0 rfl) ?_
              refine lv_if_ne (tgt := 93) hx hb dX4_end_86 (by decide) (fun c_13 => ?_) (fun c_13 => absurd c_13 (by decide))
              refine lv_iload_n hx hb dX4_end_93 rfl (lv_at hl 2 rfl) ?_
              refine lv_iconst (v := 4) hx hb dX4_end_94 (by decide) ?_
              refine lv_icmp_ne (tgt := 102) hx hb dX4_end_95 (by decide) (fun c_14 => absurd (by decide) c_14) (fun c_14 => ?_)
              refine lv_iconst (v := 3) hx hb dX4_end_98 (by decide) ?_
              refine lv_goto (tgt := 103) hx hb dX4_end_99 (by decide) ?_
              refine mt_put S iw_X4 tyX4 tyX4_ok nmX4 hC hW hS wc_200 rfl 15 (by decide) mw_fl_X4_44 rfl rfl rfl rfl (Nat.le_of_ble_eq_true rfl) dX4_end_103 (fun H locs hW hS => ?_)
              have hW := hW.to (w1 := mt_wc g ad lc mc bc (mt_gu N 200 15 3) G o d) ((wc_sett (by decide)).trans (by rw [mt_gu2]))
              refine lv_aload_n hx hb dX4_end_106 rfl (lv_at hl 4 rfl) ?_
              refine mt_get S iw_X4 hC hW wc_200 rfl 15 (by decide) mw_fl_X4_44 rfl rfl dX4_end_107 ?_
              refine mt_te (y := 3) rfl ?_
              refine lv_if_le (tgt := 115) hx hb dX4_end_110 (by decide) (fun c_15 => absurd c_15 (by decide)) (fun c_15 => ?_)
              refine lv_iconst (v := -1) hx hb dX4_end_113 (by decide) ?_
              have hW := hW.to (w1 := mt_wc g ad lc mc bc (mt_gu N 200 15 (en_r lc mc bc N G x).2) G o d) (by rw [en_r, if_neg cf_1, hP.1, Nat.sub_self, en_4 c_4 c_5 (Or.inr c_10)])
              exact mt_ri S hr hk hW hS (by rw [c_X4_end, en_r, if_neg cf_1, hP.1, Nat.sub_self, en_4 c_4 c_5 (Or.inr c_10)]) (Nat.le_of_ble_eq_true rfl) (Nat.le_of_ble_eq_true rfl) dX4_end_114
    · have hW : mt_W g z (mt_wc g ad lc mc bc (mt_gu N 200 15 0) G o d) ad _ := hW
      have hl : lv_has ls 6 [(3, .int (nI k)), (2, .int (c_en_at lc mc bc N G x k)), (0, .ref (ad (200))), (1, .int (x))] := hl
      have hP : r_end lc mc bc N G 4 x = r_end lc mc bc N G (4 - k) (c_en_at lc mc bc N G x k) ∧ IsP (c_en_at lc mc bc N G x k) := hP
      refine lv_aload_n hx hb dX4_end_14 rfl (lv_at hl 2 rfl) ?_
      refine lv_iload_n hx hb dX4_end_15 rfl (lv_at hl 1 rfl) ?_
      refine mt_cV1 (As := [.int (c_en_at lc mc bc N G x k)]) (rest := []) S pv_X4_shown mw_ml_X4_107 (k_X4_shown l hlt g z ad lc mc bc (mt_gu N 200 15 0) G o d h6 h8 hb6 (c_en_at lc mc bc N G x k) (by repeat (first | exact hM | exact hP | apply MI_t)) hP.2) hC hW hS wc_200 rfl rfl rfl hl.1 rfl (Nat.le_of_ble_eq_true rfl) dX4_end_16 ⟨(Nat.le_of_ble_eq_true rfl), (Nat.le_of_ble_eq_true rfl)⟩ ⟨(Nat.le_of_ble_eq_true rfl), (Nat.le_of_ble_eq_true rfl)⟩ rfl (fun H locs hW hS => ?_)
      refine mt_te (y := c_X4_shown lc mc bc N G (c_en_at lc mc bc N G x k)) rfl ?_
      refine lv_iconst (v := -1) hx hb dX4_end_19 (by decide) ?_
      refine lv_icmp_eq (tgt := 124) hx hb dX4_end_20 (by decide) (fun c_16 => ?_) (fun c_16 => ?_)
      · refine lv_iload_n hx hb dX4_end_124 rfl (lv_at hl 1 rfl) ?_
        have hW := hW.to (w1 := mt_wc g ad lc mc bc (mt_gu N 200 15 (en_r lc mc bc N G x).2) G o d) (by rw [en_r, if_neg cf_1, hP.1, en_1 c_16])
        exact mt_ri S hr hk hW hS (by rw [c_X4_end, en_r, if_neg cf_1, hP.1, en_1 c_16]) (Nat.le_of_ble_eq_true rfl) (Nat.le_of_ble_eq_true rfl) dX4_end_125
      · refine lv_aload_n hx hb dX4_end_23 rfl (lv_at hl 2 rfl) ?_
        refine mt_get S iw_X4 hC hW wc_200 rfl 0 (by decide) mw_fl_X4_7 rfl rfl dX4_end_24 ?_
        refine lv_aload_n hx hb dX4_end_27 rfl (lv_at hl 2 rfl) ?_
        refine lv_iload_n hx hb dX4_end_28 rfl (lv_at hl 1 rfl) ?_
        refine mt_cV1 (As := [.int (c_en_at lc mc bc N G x k)]) (rest := [.ref (ad (201))]) S pv_X4_shown mw_ml_X4_107 (k_X4_shown l hlt g z ad lc mc bc (mt_gu N 200 15 0) G o d h6 h8 hb6 (c_en_at lc mc bc N G x k) (by repeat (first | exact hM | exact hP | apply MI_t)) hP.2) hC hW hS wc_200 rfl rfl rfl hl.1 rfl (Nat.le_of_ble_eq_true rfl) dX4_end_29 ⟨(Nat.le_of_ble_eq_true rfl), (Nat.le_of_ble_eq_true rfl)⟩ ⟨(Nat.le_of_ble_eq_true rfl), (Nat.le_of_ble_eq_true rfl)⟩ rfl (fun H locs hW hS => ?_)
        refine mt_te (y := c_X4_shown lc mc bc N G (c_en_at lc mc bc N G x k)) rfl ?_
        refine wk_iald S hC hW ar_201 (sh_in hM hP.2 c_16) dX4_end_32 ?_
        refine lv_iconst (v := 2) hx hb dX4_end_33 (by decide) ?_
        refine lv_icmp_ne (tgt := 124) hx hb dX4_end_34 (by decide) (fun c_17 => ?_) (fun c_17 => ?_)
        · refine lv_iload_n hx hb dX4_end_124 rfl (lv_at hl 1 rfl) ?_
          have hW := hW.to (w1 := mt_wc g ad lc mc bc (mt_gu N 200 15 (en_r lc mc bc N G x).2) G o d) (by rw [en_r, if_neg cf_1, hP.1, en_2 c_16 c_17])
          exact mt_ri S hr hk hW hS (by rw [c_X4_end, en_r, if_neg cf_1, hP.1, en_2 c_16 c_17]) (Nat.le_of_ble_eq_true rfl) (Nat.le_of_ble_eq_true rfl) dX4_end_125
        · refine lv_aload_n hx hb dX4_end_37 rfl (lv_at hl 2 rfl) ?_
          refine mt_get S iw_X4 hC hW wc_200 rfl 2 (by decide) mw_fl_X4_16 rfl rfl dX4_end_38 ?_
          refine lv_aload_n hx hb dX4_end_41 rfl (lv_at hl 2 rfl) ?_
          refine lv_iload_n hx hb dX4_end_42 rfl (lv_at hl 1 rfl) ?_
          refine mt_cV1 (As := [.int (c_en_at lc mc bc N G x k)]) (rest := [.ref (ad (203))]) S pv_X4_shown mw_ml_X4_107 (k_X4_shown l hlt g z ad lc mc bc (mt_gu N 200 15 0) G o d h6 h8 hb6 (c_en_at lc mc bc N G x k) (by repeat (first | exact hM | exact hP | apply MI_t)) hP.2) hC hW hS wc_200 rfl rfl rfl hl.1 rfl (Nat.le_of_ble_eq_true rfl) dX4_end_43 ⟨(Nat.le_of_ble_eq_true rfl), (Nat.le_of_ble_eq_true rfl)⟩ ⟨(Nat.le_of_ble_eq_true rfl), (Nat.le_of_ble_eq_true rfl)⟩ rfl (fun H locs hW hS => ?_)
          refine mt_te (y := c_X4_shown lc mc bc N G (c_en_at lc mc bc N G x k)) rfl ?_
          refine wk_iald S hC hW ar_203 (sh_in hM hP.2 c_16) dX4_end_46 ?_
          refine lv_istore (lv' := [(4, .int (G 203 (c_X4_shown lc mc bc N G (c_en_at lc mc bc N G x k)).toNatClampNeg)), (3, .int (nI k)), (2, .int (c_en_at lc mc bc N G x k)), (0, .ref (ad (200))), (1, .int (x))]) hx hb dX4_end_47 hl (by decide) rfl (fun ls hl => ?_)
          refine lv_aload_n hx hb dX4_end_49 rfl (lv_at hl 3 rfl) ?_
          refine lv_iload hx hb dX4_end_50 (lv_at hl 0 rfl) ?_
          refine mt_cV1 (As := [.int (G 203 (c_X4_shown lc mc bc N G (c_en_at lc mc bc N G x k)).toNatClampNeg)]) (rest := []) S pv_X4_servedBy mw_ml_X4_90 (k_X4_servedBy l hlt g z ad lc mc bc (mt_gu N 200 15 0) G o d h6 h8 hb6 (G 203 (c_X4_shown lc mc bc N G (c_en_at lc mc bc N G x k)).toNatClampNeg) (by repeat (first | exact hM | exact hP | apply MI_t)) (MI_ln hM hP.2 c_16 c_17)) hC hW hS wc_200 rfl rfl rfl hl.1 rfl (Nat.le_of_ble_eq_true rfl) dX4_end_52 ⟨(Nat.le_of_ble_eq_true rfl), (Nat.le_of_ble_eq_true rfl)⟩ ⟨(Nat.le_of_ble_eq_true rfl), (Nat.le_of_ble_eq_true rfl)⟩ rfl (fun H locs hW hS => ?_)
          refine mt_te (y := c_X4_servedBy lc mc bc N G (G 203 (c_X4_shown lc mc bc N G (c_en_at lc mc bc N G x k)).toNatClampNeg)) rfl ?_
          refine lv_aload_n hx hb dX4_end_55 rfl (lv_at hl 3 rfl) ?_
          refine lv_iload_n hx hb dX4_end_56 rfl (lv_at hl 2 rfl) ?_
          refine mt_cV1 (As := [.int (c_en_at lc mc bc N G x k)]) (rest := [.int (c_X4_servedBy lc mc bc N G (G 203 (c_X4_shown lc mc bc N G (c_en_at lc mc bc N G x k)).toNatClampNeg))]) S pv_X4_servedBy mw_ml_X4_90 (k_X4_servedBy l hlt g z ad lc mc bc (mt_gu N 200 15 0) G o d h6 h8 hb6 (c_en_at lc mc bc N G x k) (by repeat (first | exact hM | exact hP | apply MI_t)) hP.2) hC hW hS wc_200 rfl rfl rfl hl.1 rfl (Nat.le_of_ble_eq_true rfl) dX4_end_57 ⟨(Nat.le_of_ble_eq_true rfl), (Nat.le_of_ble_eq_true rfl)⟩ ⟨(Nat.le_of_ble_eq_true rfl), (Nat.le_of_ble_eq_true rfl)⟩ rfl (fun H locs hW hS => ?_)
          refine mt_te (y := c_X4_servedBy lc mc bc N G (c_en_at lc mc bc N G x k)) rfl ?_
          refine lv_icmp_eq (tgt := 76) hx hb dX4_end_60 (by decide) (fun c_18 => ?_) (fun c_18 => ?_)
          · refine lv_iconst (v := 1) hx hb dX4_end_76 (by decide) ?_
            refine lv_goto (tgt := 81) hx hb dX4_end_77 (by decide) ?_
            refine lv_istore (lv' := [(5, .int (1)), (4, .int (G 203 (c_X4_shown lc mc bc N G (c_en_at lc mc bc N G x k)).toNatClampNeg)), (3, .int (nI k)), (2, .int (c_en_at lc mc bc N G x k)), (0, .ref (ad (200))), (1, .int (x))]) hx hb dX4_end_81 hl (by decide) rfl (fun ls hl => ?_)
            refine lv_aload_n hx hb dX4_end_83 rfl (lv_at hl 4 rfl) ?_
            refine lv_iload hx hb dX4_end_84 (lv_at hl 0 rfl) ?_
            refine lv_if_ne (tgt := 93) hx hb dX4_end_86 (by decide) (fun c_19 => ?_) (fun c_19 => absurd c_19 (by decide))
            refine lv_iload_n hx hb dX4_end_93 rfl (lv_at hl 2 rfl) ?_
            refine lv_iconst (v := 4) hx hb dX4_end_94 (by decide) ?_
            refine lv_icmp_ne (tgt := 102) hx hb dX4_end_95 (by decide) (fun c_20 => ?_) (fun c_20 => absurd c_20 (fun q => absurd ((nI_eq (by omega) (by decide)).mp (q.trans (show (4 : Int32) = nI 4 by decide))) (by omega)))
            refine lv_iconst (v := 0) hx hb dX4_end_102 (by decide) ?_
            refine mt_put S iw_X4 tyX4 tyX4_ok nmX4 hC hW hS wc_200 rfl 15 (by decide) mw_fl_X4_44 rfl rfl rfl rfl (Nat.le_of_ble_eq_true rfl) dX4_end_103 (fun H locs hW hS => ?_)
            have hW := hW.to (w1 := mt_wc g ad lc mc bc (mt_gu N 200 15 0) G o d) ((wc_sett (by decide)).trans (by rw [mt_gu2]))
            refine lv_aload_n hx hb dX4_end_106 rfl (lv_at hl 4 rfl) ?_
            refine mt_get S iw_X4 hC hW wc_200 rfl 15 (by decide) mw_fl_X4_44 rfl rfl dX4_end_107 ?_
            refine mt_te (y := 0) rfl ?_
            refine lv_if_le (tgt := 115) hx hb dX4_end_110 (by decide) (fun c_21 => ?_) (fun c_21 => absurd (by decide) c_21)
            refine lv_iload hx hb dX4_end_115 (lv_at hl 1 rfl) ?_
            refine lv_istore_n (lv' := [(2, .int (G 203 (c_X4_shown lc mc bc N G (c_en_at lc mc bc N G x k)).toNatClampNeg)), (5, .int (1)), (4, .int (G 203 (c_X4_shown lc mc bc N G (c_en_at lc mc bc N G x k)).toNatClampNeg)), (3, .int (nI k)), (0, .ref (ad (200))), (1, .int (x))]) hx hb dX4_end_117 rfl hl (by decide) rfl (fun ls hl => ?_)
            refine lv_iinc (v := nI (k + 1)) (lv' := [(3, .int (nI (k + 1))), (2, .int (G 203 (c_X4_shown lc mc bc N G (c_en_at lc mc bc N G x k)).toNatClampNeg)), (5, .int (1)), (4, .int (G 203 (c_X4_shown lc mc bc N G (c_en_at lc mc bc N G x k)).toNatClampNeg)), (0, .ref (ad (200))), (1, .int (x))]) hx hb dX4_end_118 hl (k := 3) rfl (nI_1 _) (by decide) rfl (fun ls hl => ?_)
            refine lv_goto (tgt := 14) hx hb dX4_end_121 (by decide) ?_
            have hl : lv_has ls 6 [(3, .int (nI (k + 1))), (2, .int (c_en_at lc mc bc N G x (k + 1))), (0, .ref (ad (200))), (1, .int (x))] := lv_sub hl [0, 1, 4, 5] rfl
            exact ih _ _ _ ⟨hP.1.trans (en_s hkn c_16 c_17 (Or.inl c_18)), MI_ln hM hP.2 c_16 c_17⟩ hW hS hl
          · refine lv_aload_n hx hb dX4_end_63 rfl (lv_at hl 3 rfl) ?_
            refine mt_get S iw_X4 hC hW wc_200 rfl 8 (by decide) mw_fl_X4_32 rfl rfl dX4_end_64 ?_
            refine lv_aload_n hx hb dX4_end_67 rfl (lv_at hl 3 rfl) ?_
            refine lv_iload_n hx hb dX4_end_68 rfl (lv_at hl 2 rfl) ?_
            refine mt_cV1 (As := [.int (c_en_at lc mc bc N G x k)]) (rest := [.ref (ad (209))]) S pv_X4_servedBy mw_ml_X4_90 (k_X4_servedBy l hlt g z ad lc mc bc (mt_gu N 200 15 0) G o d h6 h8 hb6 (c_en_at lc mc bc N G x k) (by repeat (first | exact hM | exact hP | apply MI_t)) hP.2) hC hW hS wc_200 rfl rfl rfl hl.1 rfl (Nat.le_of_ble_eq_true rfl) dX4_end_69 ⟨(Nat.le_of_ble_eq_true rfl), (Nat.le_of_ble_eq_true rfl)⟩ ⟨(Nat.le_of_ble_eq_true rfl), (Nat.le_of_ble_eq_true rfl)⟩ rfl (fun H locs hW hS => ?_)
            refine mt_te (y := c_X4_servedBy lc mc bc N G (c_en_at lc mc bc N G x k)) rfl ?_
            refine wk_zald S hC hW ar_209 (sb_in hM hP.2 (sh_s c_16)) dX4_end_72 ?_
            refine lv_if_eq (tgt := 80) hx hb dX4_end_73 (by decide) (fun c_22 => ?_) (fun c_22 => ?_)
            · refine lv_iconst (v := 0) hx hb dX4_end_80 (by decide) ?_
              refine lv_istore (lv' := [(5, .int (0)), (4, .int (G 203 (c_X4_shown lc mc bc N G (c_en_at lc mc bc N G x k)).toNatClampNeg)), (3, .int (nI k)), (2, .int (c_en_at lc mc bc N G x k)), (0, .ref (ad (200))), (1, .int (x))]) hx hb dX4_end_81 hl (by decide) rfl (fun ls hl => ?_)
              refine lv_aload_n hx hb dX4_end_83 rfl (lv_at hl 4 rfl) ?_
              refine lv_iload hx hb dX4_end_84 (lv_at hl 0 rfl) ?_
              refine lv_if_ne (tgt := 93) hx hb dX4_end_86 (by decide) (fun c_23 => absurd (by decide) c_23) (fun c_23 => ?_)
              refine lv_iconst (v := 2) hx hb dX4_end_89 (by decide) ?_
              refine lv_goto (tgt := 103) hx hb dX4_end_90 (by decide) ?_
              refine mt_put S iw_X4 tyX4 tyX4_ok nmX4 hC hW hS wc_200 rfl 15 (by decide) mw_fl_X4_44 rfl rfl rfl rfl (Nat.le_of_ble_eq_true rfl) dX4_end_103 (fun H locs hW hS => ?_)
              have hW := hW.to (w1 := mt_wc g ad lc mc bc (mt_gu N 200 15 2) G o d) ((wc_sett (by decide)).trans (by rw [mt_gu2]))
              refine lv_aload_n hx hb dX4_end_106 rfl (lv_at hl 4 rfl) ?_
              refine mt_get S iw_X4 hC hW wc_200 rfl 15 (by decide) mw_fl_X4_44 rfl rfl dX4_end_107 ?_
              refine mt_te (y := 2) rfl ?_
              refine lv_if_le (tgt := 115) hx hb dX4_end_110 (by decide) (fun c_24 => absurd c_24 (by decide)) (fun c_24 => ?_)
              refine lv_iconst (v := -1) hx hb dX4_end_113 (by decide) ?_
              have hW := hW.to (w1 := mt_wc g ad lc mc bc (mt_gu N 200 15 (en_r lc mc bc N G x).2) G o d) (by rw [en_r, if_neg cf_1, hP.1, en_3 c_16 c_17 c_18 c_22])
              exact mt_ri S hr hk hW hS (by rw [c_X4_end, en_r, if_neg cf_1, hP.1, en_3 c_16 c_17 c_18 c_22]) (Nat.le_of_ble_eq_true rfl) (Nat.le_of_ble_eq_true rfl) dX4_end_114
            · refine lv_iconst (v := 1) hx hb dX4_end_76 (by decide) ?_
              refine lv_goto (tgt := 81) hx hb dX4_end_77 (by decide) ?_
              refine lv_istore (lv' := [(5, .int (1)), (4, .int (G 203 (c_X4_shown lc mc bc N G (c_en_at lc mc bc N G x k)).toNatClampNeg)), (3, .int (nI k)), (2, .int (c_en_at lc mc bc N G x k)), (0, .ref (ad (200))), (1, .int (x))]) hx hb dX4_end_81 hl (by decide) rfl (fun ls hl => ?_)
              refine lv_aload_n hx hb dX4_end_83 rfl (lv_at hl 4 rfl) ?_
              refine lv_iload hx hb dX4_end_84 (lv_at hl 0 rfl) ?_
              refine lv_if_ne (tgt := 93) hx hb dX4_end_86 (by decide) (fun c_25 => ?_) (fun c_25 => absurd c_25 (by decide))
              refine lv_iload_n hx hb dX4_end_93 rfl (lv_at hl 2 rfl) ?_
              refine lv_iconst (v := 4) hx hb dX4_end_94 (by decide) ?_
              refine lv_icmp_ne (tgt := 102) hx hb dX4_end_95 (by decide) (fun c_26 => ?_) (fun c_26 => absurd c_26 (fun q => absurd ((nI_eq (by omega) (by decide)).mp (q.trans (show (4 : Int32) = nI 4 by decide))) (by omega)))
              refine lv_iconst (v := 0) hx hb dX4_end_102 (by decide) ?_
              refine mt_put S iw_X4 tyX4 tyX4_ok nmX4 hC hW hS wc_200 rfl 15 (by decide) mw_fl_X4_44 rfl rfl rfl rfl (Nat.le_of_ble_eq_true rfl) dX4_end_103 (fun H locs hW hS => ?_)
              have hW := hW.to (w1 := mt_wc g ad lc mc bc (mt_gu N 200 15 0) G o d) ((wc_sett (by decide)).trans (by rw [mt_gu2]))
              refine lv_aload_n hx hb dX4_end_106 rfl (lv_at hl 4 rfl) ?_
              refine mt_get S iw_X4 hC hW wc_200 rfl 15 (by decide) mw_fl_X4_44 rfl rfl dX4_end_107 ?_
              refine mt_te (y := 0) rfl ?_
              refine lv_if_le (tgt := 115) hx hb dX4_end_110 (by decide) (fun c_27 => ?_) (fun c_27 => absurd (by decide) c_27)
              refine lv_iload hx hb dX4_end_115 (lv_at hl 1 rfl) ?_
              refine lv_istore_n (lv' := [(2, .int (G 203 (c_X4_shown lc mc bc N G (c_en_at lc mc bc N G x k)).toNatClampNeg)), (5, .int (1)), (4, .int (G 203 (c_X4_shown lc mc bc N G (c_en_at lc mc bc N G x k)).toNatClampNeg)), (3, .int (nI k)), (0, .ref (ad (200))), (1, .int (x))]) hx hb dX4_end_117 rfl hl (by decide) rfl (fun ls hl => ?_)
              refine lv_iinc (v := nI (k + 1)) (lv' := [(3, .int (nI (k + 1))), (2, .int (G 203 (c_X4_shown lc mc bc N G (c_en_at lc mc bc N G x k)).toNatClampNeg)), (5, .int (1)), (4, .int (G 203 (c_X4_shown lc mc bc N G (c_en_at lc mc bc N G x k)).toNatClampNeg)), (0, .ref (ad (200))), (1, .int (x))]) hx hb dX4_end_118 hl (k := 3) rfl (nI_1 _) (by decide) rfl (fun ls hl => ?_)
              refine lv_goto (tgt := 14) hx hb dX4_end_121 (by decide) ?_
              have hl : lv_has ls 6 [(3, .int (nI (k + 1))), (2, .int (c_en_at lc mc bc N G x (k + 1))), (0, .ref (ad (200))), (1, .int (x))] := lv_sub hl [0, 1, 4, 5] rfl
              exact ih _ _ _ ⟨hP.1.trans (en_s hkn c_16 c_17 (Or.inr c_22)), MI_ln hM hP.2 c_16 c_17⟩ hW hS hl
def c_X4_size (lc mc bc : Nat) (N G : Nat → Nat → Int32) (x : Int32) : Int32 := if ((en_r lc mc bc N G x).2) ≤ 0 then (if (c_X4_shown lc mc bc N G (c_X4_end lc mc bc N G x)) = (-1) then (-1) else (G 203 (c_X4_shown lc mc bc N G (c_X4_end lc mc bc N G x)).toNatClampNeg)) else (-1)
def c_X4_size_N (lc mc bc : Nat) (N G : Nat → Nat → Int32) (x : Int32) : Nat → Nat → Int32 := if ((en_r lc mc bc N G x).2) ≤ 0 then (if (c_X4_shown lc mc bc N G (c_X4_end lc mc bc N G x)) = (-1) then (mt_gu N 200 15 4) else (mt_gu N 200 15 0)) else (mt_gu N 200 15 (en_r lc mc bc N G x).2)
set_option maxRecDepth 100000 in
set_option maxHeartbeats 4000000 in
theorem k_X4_size (l : Launch) (hlt : l.stackTraces = false) (g : mt_G) (z : Nat) (ad : Nat → Nat) (lc mc bc : Nat) (N G : Nat → Nat → Int32) (o : Nat → Int64) (d : mt_D) (h6 : lc ≤ 6) (h8 : mc ≤ 8) (hb6 : bc ≤ 6) (x : Int32) (hM : MI N G) : mt_K l g z yX4_size cX4_size 4 (some .int) 5 118 0 0 [.ref (ad (200)), .int x] (mt_wc g ad lc mc bc N G o d) ad (.inr (some (.int (c_X4_size lc mc bc N G x)))) (mt_wc g ad lc mc bc (c_X4_size_N lc mc bc N G x) G o d) ad := by
  refine mt_ofW (by decide +kernel) (Nat.le_of_ble_eq_true rfl) ?_
  intro p e s m args below meth c S hr9 hk hnm hout hC hW hS ls hl
  have hr := hr9
  have hx := S.1
  have hb := S.2.1
  have hl : lv_has ls 4 [(0, .ref (ad (200))), (1, .int (x))] := hl
  refine lv_aload_n hx hb dX4_size_0 rfl (lv_at hl 0 rfl) ?_
  refine lv_iload_n hx hb dX4_size_1 rfl (lv_at hl 1 rfl) ?_
  refine mt_cV1 (As := [.int (x)]) (rest := []) S pv_X4_end mw_ml_X4_134 (k_X4_end l hlt g z ad lc mc bc N G o d h6 h8 hb6 x (by repeat (first | exact hM | exact hP | apply MI_t))) hC hW hS wc_200 rfl rfl rfl hl.1 rfl (Nat.le_of_ble_eq_true rfl) dX4_size_2 ⟨(Nat.le_of_ble_eq_true rfl), (Nat.le_of_ble_eq_true rfl)⟩ ⟨(Nat.le_of_ble_eq_true rfl), (Nat.le_of_ble_eq_true rfl)⟩ rfl (fun H locs hW hS => ?_)
  refine lv_istore_n (lv' := [(2, .int (c_X4_end lc mc bc N G x)), (0, .ref (ad (200))), (1, .int (x))]) hx hb dX4_size_5 rfl hl (by decide) rfl (fun ls hl => ?_)
  refine lv_aload_n hx hb dX4_size_6 rfl (lv_at hl 1 rfl) ?_
  refine mt_get S iw_X4 hC hW wc_200 rfl 15 (by decide) mw_fl_X4_44 rfl rfl dX4_size_7 ?_
  refine mt_te (y := (en_r lc mc bc N G x).2) rfl ?_
  refine lv_if_le (tgt := 15) hx hb dX4_size_10 (by decide) (fun c_1 => ?_) (fun c_1 => ?_)
  · refine lv_aload_n hx hb dX4_size_15 rfl (lv_at hl 1 rfl) ?_
    refine lv_iload_n hx hb dX4_size_16 rfl (lv_at hl 0 rfl) ?_
    refine mt_cV1 (As := [.int (c_X4_end lc mc bc N G x)]) (rest := []) S pv_X4_shown mw_ml_X4_107 (k_X4_shown l hlt g z ad lc mc bc (mt_gu N 200 15 (en_r lc mc bc N G x).2) G o d h6 h8 hb6 (c_X4_end lc mc bc N G x) (by repeat (first | exact hM | exact hP | apply MI_t)) (en_P hM c_1)) hC hW hS wc_200 rfl rfl rfl hl.1 rfl (Nat.le_of_ble_eq_true rfl) dX4_size_17 ⟨(Nat.le_of_ble_eq_true rfl), (Nat.le_of_ble_eq_true rfl)⟩ ⟨(Nat.le_of_ble_eq_true rfl), (Nat.le_of_ble_eq_true rfl)⟩ rfl (fun H locs hW hS => ?_)
    refine mt_te (y := c_X4_shown lc mc bc N G (c_X4_end lc mc bc N G x)) rfl ?_
    refine lv_istore_n (lv' := [(3, .int (c_X4_shown lc mc bc N G (c_X4_end lc mc bc N G x))), (2, .int (c_X4_end lc mc bc N G x)), (0, .ref (ad (200))), (1, .int (x))]) hx hb dX4_size_20 rfl hl (by decide) rfl (fun ls hl => ?_)
    refine lv_aload_n hx hb dX4_size_21 rfl (lv_at hl 2 rfl) ?_
    refine lv_iload_n hx hb dX4_size_22 rfl (lv_at hl 0 rfl) ?_
    refine lv_iconst (v := -1) hx hb dX4_size_23 (by decide) ?_
    refine lv_icmp_ne (tgt := 31) hx hb dX4_size_24 (by decide) (fun c_2 => ?_) (fun c_2 => ?_)
    · refine lv_iconst (v := 0) hx hb dX4_size_31 (by decide) ?_
      refine mt_put S iw_X4 tyX4 tyX4_ok nmX4 hC hW hS wc_200 rfl 15 (by decide) mw_fl_X4_44 rfl rfl rfl rfl (Nat.le_of_ble_eq_true rfl) dX4_size_32 (fun H locs hW hS => ?_)
      have hW := hW.to (w1 := mt_wc g ad lc mc bc (mt_gu N 200 15 0) G o d) ((wc_sett (by decide)).trans (by rw [mt_gu2]))
      refine lv_aload_n hx hb dX4_size_35 rfl (lv_at hl 2 rfl) ?_
      refine mt_get S iw_X4 hC hW wc_200 rfl 15 (by decide) mw_fl_X4_44 rfl rfl dX4_size_36 ?_
      refine mt_te (y := 0) rfl ?_
      refine lv_if_ne (tgt := 51) hx hb dX4_size_39 (by decide) (fun c_3 => absurd (by decide) c_3) (fun c_3 => ?_)
      refine lv_aload_n hx hb dX4_size_42 rfl (lv_at hl 2 rfl) ?_
      refine mt_get S iw_X4 hC hW wc_200 rfl 2 (by decide) mw_fl_X4_16 rfl rfl dX4_size_43 ?_
      refine lv_iload_n hx hb dX4_size_46 rfl (lv_at hl 0 rfl) ?_
      refine wk_iald S hC hW ar_203 (sh_in hM (en_P hM c_1) c_2) dX4_size_47 ?_
      refine lv_goto (tgt := 52) hx hb dX4_size_48 (by decide) ?_
      have hW := hW.to (w1 := mt_wc g ad lc mc bc (c_X4_size_N lc mc bc N G x) G o d) (by rw [c_X4_size_N, if_pos c_1, if_neg c_2])
      exact mt_ri S hr hk hW hS (by rw [c_X4_size, if_pos c_1, if_neg c_2]) (Nat.le_of_ble_eq_true rfl) (Nat.le_of_ble_eq_true rfl) dX4_size_52
    · refine lv_iconst (v := 4) hx hb dX4_size_27 (by decide) ?_
      refine lv_goto (tgt := 32) hx hb dX4_size_28 (by decide) ?_
      refine mt_put S iw_X4 tyX4 tyX4_ok nmX4 hC hW hS wc_200 rfl 15 (by decide) mw_fl_X4_44 rfl rfl rfl rfl (Nat.le_of_ble_eq_true rfl) dX4_size_32 (fun H locs hW hS => ?_)
      have hW := hW.to (w1 := mt_wc g ad lc mc bc (mt_gu N 200 15 4) G o d) ((wc_sett (by decide)).trans (by rw [mt_gu2]))
      refine lv_aload_n hx hb dX4_size_35 rfl (lv_at hl 2 rfl) ?_
      refine mt_get S iw_X4 hC hW wc_200 rfl 15 (by decide) mw_fl_X4_44 rfl rfl dX4_size_36 ?_
      refine mt_te (y := 4) rfl ?_
      refine lv_if_ne (tgt := 51) hx hb dX4_size_39 (by decide) (fun c_4 => ?_) (fun c_4 => absurd c_4 (by decide))
      refine lv_iconst (v := -1) hx hb dX4_size_51 (by decide) ?_
      have hW := hW.to (w1 := mt_wc g ad lc mc bc (c_X4_size_N lc mc bc N G x) G o d) (by rw [c_X4_size_N, if_pos c_1, if_pos c_2])
      exact mt_ri S hr hk hW hS (by rw [c_X4_size, if_pos c_1, if_pos c_2]) (Nat.le_of_ble_eq_true rfl) (Nat.le_of_ble_eq_true rfl) dX4_size_52
  · refine lv_iconst (v := -1) hx hb dX4_size_13 (by decide) ?_
    have hW := hW.to (w1 := mt_wc g ad lc mc bc (c_X4_size_N lc mc bc N G x) G o d) (by rw [c_X4_size_N, if_neg c_1])
    exact mt_ri S hr hk hW hS (by rw [c_X4_size, if_neg c_1]) (Nat.le_of_ble_eq_true rfl) (Nat.le_of_ble_eq_true rfl) dX4_size_14

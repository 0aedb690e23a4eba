def c_bs_a (lc mc bc : Nat) (N G : Nat → Nat → Int32) (a : Int32) : Nat → Int32
  | 0 => 0
  | j + 1 => if j = 0 then 0 else if c_bs_a lc mc bc N G a j = 0 then (if c_X4_shown lc mc bc N G (c_X4_pathOf (nI j)) = a then 1 else 0) else 1
def c_bs_i (lc mc bc : Nat) (N G : Nat → Nat → Int32) (k : Nat) : Int32 := if G 201 k = 1 then c_bs_a lc mc bc N G (nI k) 341 else 0
def c_bs_l (lc mc bc : Nat) (N G : Nat → Nat → Int32) : Nat → Int32
  | 0 => 0
  | k + 1 => c_bs_l lc mc bc N G k + (if c_bs_i lc mc bc N G k = 0 then 0 else G 203 k)
section BS
variable {lc mc bc : Nat} {N G : Nat → Nat → Int32} {k j : Nat}
theorem bs_1 {a : Int32} : c_bs_a lc mc bc N G a 1 = 0 := by rw [c_bs_a]; exact if_pos rfl
theorem bs_m {a : Int32} (hj : 1 ≤ j) (h : ¬ c_bs_a lc mc bc N G a j = 0) (n : Nat) : ¬ c_bs_a lc mc bc N G a (j + n) = 0 := by
  induction n with
  | zero => exact h
  | succ n ih => rw [← Nat.add_assoc, c_bs_a, if_neg (by omega), if_neg ih]; decide
theorem bs_n (h : ¬ G 201 k = 1) : c_bs_l lc mc bc N G (k + 1) = c_bs_l lc mc bc N G k + 0 := by rw [c_bs_l, c_bs_i, if_neg h, if_pos rfl]
theorem bs_y (h1 : G 201 k = 1) (hj : 1 ≤ j) (hj2 : j ≤ 341) (h : ¬ c_bs_a lc mc bc N G (nI k) j = 0) : c_bs_l lc mc bc N G (k + 1) = c_bs_l lc mc bc N G k + G 203 k := by
  have h2 := bs_m hj h (341 - j)
  rw [show j + (341 - j) = 341 by omega] at h2
  rw [c_bs_l, c_bs_i, if_pos h1, if_neg h2]
theorem bs_0 (h1 : G 201 k = 1) (h : c_bs_a lc mc bc N G (nI k) 341 = 0) : c_bs_l lc mc bc N G (k + 1) = c_bs_l lc mc bc N G k + 0 := by rw [c_bs_l, c_bs_i, if_pos h1, if_pos h]
theorem bs_k (hP : 341 = 1 ∨ G 201 k = 1) : G 201 k = 1 := hP.resolve_left (by decide)
theorem bs_z (hP : j = 1 ∨ G 201 k = 1) (h : ¬ G 201 k = 1) : c_bs_a lc mc bc N G (nI k) j = 0 := by
  rcases hP with h1 | h1
  · rw [h1]; exact bs_1
  · exact absurd h1 h
end BS
theorem isR_of {x : Int32} (h1 : ¬ x < 1) (h2 : ¬ 341 ≤ x) : IsR x := by
  have h0 : ¬ x < 0 := fun q => h1 (Int32.lt_of_lt_of_le q (by decide))
  obtain ⟨j, hj, rfl⟩ := nI_of h0
  rw [show (341 : Int32) = nI 341 by decide, nI_leI (by decide) hj] at h2
  exact isR_nI (by omega)
theorem MI_k {N G : Nat → Nat → Int32} {i : Nat} {v : Int32} (h : MI N G) : MI N (mt_gu G 213 i v) := h
theorem bk_i {N G : Nat → Nat → Int32} (hM : MI N G) (k : Nat) : 2046 * N 200 14 + nI k = nI (2046 * bqN N + k) := by
  rw [hM.2.2.2.2.2.1, show (2046 : Int32) = nI 2046 by decide, nI_mulN, nI_add]
theorem bk_l {N G : Nat → Nat → Int32} (hM : MI N G) (h : ¬ N 200 14 = 6) : bqN N < 6 := by
  have h1 := hM.2.2.1
  have h2 := hM.2.2.2.2.2.1
  rcases Nat.lt_or_ge (bqN N) 6 with q | q
  · exact q
  · have e : bqN N = 6 := by omega
    rw [h2, e] at h; exact absurd (by decide) h
theorem bk_j {N G : Nat → Nat → Int32} {x : Int32} (hM : MI N G) (h : ¬ c_inI x 0 (N 200 14 - 1) = 0) : x = nI x.toNatClampNeg ∧ x.toNatClampNeg < bqN N := by
  have h1 := hM.2.2.1
  rw [hM.2.2.2.2.2.1] at h
  obtain ⟨j, hj, rfl⟩ := inI_n (by omega) h
  rw [nI_clamp (by omega)]; exact ⟨rfl, hj⟩
theorem bk_x {N G : Nat → Nat → Int32} {x : Int32} (hM : MI N G) (h : ¬ c_inI x 0 (N 200 14 - 1) = 0) (k : Nat) : 2046 * x + nI k = nI (2046 * x.toNatClampNeg + k) := by
  obtain ⟨h1, -⟩ := bk_j hM h
  have e : 2046 * x = nI (2046 * x.toNatClampNeg) := by rw [← nI_mulN, ← h1]; rfl
  rw [e, nI_add]
def c_X4_covered_qa (lc mc bc : Nat) (N G : Nat → Nat → Int32)  (q : Nat) : Nat → Int32
  | 0 => 0
  | j + 1 => if (c_X4_covered_qa lc mc bc N G q j) = 0 then (if (c_X4_servedBy lc mc bc N G (c_X4_pathOf (nI j))) = (nI q) then 1 else 0) else 1
def c_X4_covered_ls (lc mc bc : Nat) (N G : Nat → Nat → Int32)  : Nat → Int32
  | 0 => 0
  | k + 1 => if (G 208 k) = 0 then ((c_X4_covered_ls lc mc bc N G k) + 0) else (if (c_X4_covered_qa lc mc bc N G k 341) = 0 then ((c_X4_covered_ls lc mc bc N G k) + 1) else ((c_X4_covered_ls lc mc bc N G k) + 0))
def c_X4_covered (lc mc bc : Nat) (N G : Nat → Nat → Int32)  : Int32 := c_X4_covered_ls lc mc bc N G (mqN N)
def c_X4_covered_N (lc mc bc : Nat) (N G : Nat → Nat → Int32)  : Nat → Nat → Int32 := mt_gu N 200 15 0
set_option maxRecDepth 100000 in
set_option maxHeartbeats 4000000 in
theorem k_X4_covered (l : Launch) (hlt : l.stackTraces = false) (g : mt_G) (z : Nat) (ad : Nat → Nat) (lc mc bc : Nat) (N G : Nat → Nat → Int32) (o : Nat → Int64) (d : mt_D) (h6 : lc ≤ 6) (h8 : mc ≤ 8) (hb6 : bc ≤ 6)  (hM : MI N G) : mt_K l g z yX4_covered cX4_covered 5 (some .int) 3 68 0 0 [.ref (ad (200))] (mt_wc g ad lc mc bc N G o d) ad (.inr (some (.int (c_X4_covered lc mc bc N G)))) (mt_wc g ad lc mc bc (c_X4_covered_N lc mc bc N G) G o d) ad := by
  refine mt_ofW (by decide +kernel) (Nat.le_of_ble_eq_true rfl) ?_
  intro p e s m args below meth c S hr9 hk hnm hout hC hW hS ls hl
  have hr := hr9
  have hx := S.1
  have hb := S.2.1
  have hl : lv_has ls 5 [(0, .ref (ad (200)))] := hl
  refine lv_aload_n hx hb dX4_covered_0 rfl (lv_at hl 0 rfl) ?_
  refine lv_iconst (v := 0) hx hb dX4_covered_1 (by decide) ?_
  refine mt_put S iw_X4 tyX4 tyX4_ok nmX4 hC hW hS wc_200 rfl 15 (by decide) mw_fl_X4_44 rfl rfl rfl rfl (Nat.le_of_ble_eq_true rfl) dX4_covered_2 (fun H locs hW hS => ?_)
  have hW := hW.to (w1 := mt_wc g ad lc mc bc (mt_gu N 200 15 0) G o d) (wc_sett (by decide))
  refine lv_iconst (v := 0) hx hb dX4_covered_5 (by decide) ?_
  refine lv_istore_n (lv' := [(1, .int (0)), (0, .ref (ad (200)))]) hx hb dX4_covered_6 rfl hl (by decide) rfl (fun ls hl => ?_)
  refine lv_iconst (v := 0) hx hb dX4_covered_7 (by decide) ?_
  refine lv_istore_n (lv' := [(2, .int (0)), (1, .int (0)), (0, .ref (ad (200)))]) hx hb dX4_covered_8 rfl hl (by decide) rfl (fun ls hl => ?_)
  have hl : lv_has ls 5 [(2, .int (nI 0)), (1, .int (c_X4_covered_ls lc mc bc N G 0)), (0, .ref (ad (200)))] := lv_sub hl [0, 1, 2] rfl
  refine lp_up (mqN N) (fun k => mt_wc g ad lc mc bc (mt_gu N 200 15 0) G o d) (fun k => [(2, .int (nI k)), (1, .int (c_X4_covered_ls lc mc bc N G k)), (0, .ref (ad (200)))]) (fun _ => True) 0 (by omega) trivial hW hS hl (fun H locs ls hP hW hS hl => ?_) (fun k H locs ls hk0 hkn hP hW hS hl ih => ?_)
  · have hW : mt_W g z (mt_wc g ad lc mc bc (mt_gu N 200 15 0) G o d) ad _ := hW
    have hl : lv_has ls 5 [(2, .int (nI (mqN N))), (1, .int (c_X4_covered_ls lc mc bc N G (mqN N))), (0, .ref (ad (200)))] := hl
    refine lv_iload_n hx hb dX4_covered_9 rfl (lv_at hl 0 rfl) ?_
    refine lv_aload_n hx hb dX4_covered_10 rfl (lv_at hl 2 rfl) ?_
    refine mt_get S iw_X4 hC hW wc_200 rfl 9 (by decide) mw_fl_X4_67 rfl rfl dX4_covered_11 ?_
    refine mt_te (y := N 200 9) rfl ?_
    refine lv_icmp_ge (tgt := 86) hx hb dX4_covered_14 (by decide) (fun c_1 => ?_) (fun c_1 => absurd pwx_e c_1)
    refine lv_iload_n hx hb dX4_covered_86 rfl (lv_at hl 1 rfl) ?_
    have hW := hW.to (w1 := mt_wc g ad lc mc bc (c_X4_covered_N lc mc bc N G) G o d) (by rw [c_X4_covered_N])
    exact mt_ri S hr hk hW hS (by rw [c_X4_covered]) (Nat.le_of_ble_eq_true rfl) (Nat.le_of_ble_eq_true rfl) dX4_covered_87
  · have hW : mt_W g z (mt_wc g ad lc mc bc (mt_gu N 200 15 0) G o d) ad _ := hW
    have hl : lv_has ls 5 [(2, .int (nI k)), (1, .int (c_X4_covered_ls lc mc bc N G k)), (0, .ref (ad (200)))] := hl
    refine lv_iload_n hx hb dX4_covered_9 rfl (lv_at hl 0 rfl) ?_
    refine lv_aload_n hx hb dX4_covered_10 rfl (lv_at hl 2 rfl) ?_
    refine mt_get S iw_X4 hC hW wc_200 rfl 9 (by decide) mw_fl_X4_67 rfl rfl dX4_covered_11 ?_
    refine mt_te (y := N 200 9) rfl ?_
    refine lv_icmp_ge (tgt := 86) hx hb dX4_covered_14 (by decide) (fun c_2 => absurd c_2 (pwx_b hkn)) (fun c_2 => ?_)
    refine lv_iconst (v := 0) hx hb dX4_covered_17 (by decide) ?_
    refine lv_istore_n (lv' := [(3, .int (0)), (2, .int (nI k)), (1, .int (c_X4_covered_ls lc mc bc N G k)), (0, .ref (ad (200)))]) hx hb dX4_covered_18 rfl hl (by decide) rfl (fun ls hl => ?_)
    refine lv_iconst (v := 0) hx hb dX4_covered_19 (by decide) ?_
    refine lv_istore (lv' := [(4, .int (0)), (3, .int (0)), (2, .int (nI k)), (1, .int (c_X4_covered_ls lc mc bc N G k)), (0, .ref (ad (200)))]) hx hb dX4_covered_20 hl (by decide) rfl (fun ls hl => ?_)
    have hl : lv_has ls 5 [(4, .int (nI 0)), (3, .int (c_X4_covered_qa lc mc bc N G k 0)), (0, .ref (ad (200))), (1, .int (c_X4_covered_ls lc mc bc N G k)), (2, .int (nI k))] := lv_sub hl [0, 1, 4, 3, 2] rfl
    refine lp_up 341 (fun j => mt_wc g ad lc mc bc (mt_gu N 200 15 0) G o d) (fun j => [(4, .int (nI j)), (3, .int (c_X4_covered_qa lc mc bc N G k j)), (0, .ref (ad (200))), (1, .int (c_X4_covered_ls lc mc bc N G k)), (2, .int (nI k))]) (fun _ => True) 0 (by omega) trivial hW hS hl (fun H locs ls _ hW hS hl => ?_) (fun j H locs ls hj0 hjn _ hW hS hl ihj => ?_)
    · have hW : mt_W g z (mt_wc g ad lc mc bc (mt_gu N 200 15 0) G o d) ad _ := hW
      have hl : lv_has ls 5 [(4, .int (nI 341)), (3, .int (c_X4_covered_qa lc mc bc N G k 341)), (0, .ref (ad (200))), (1, .int (c_X4_covered_ls lc mc bc N G k)), (2, .int (nI k))] := hl
      refine lv_iload hx hb dX4_covered_22 (lv_at hl 0 rfl) ?_
      refine lv_sipush (v := 341) hx hb dX4_covered_24 (by decide) ?_
      refine lv_icmp_ge (tgt := 59) hx hb dX4_covered_27 (by decide) (fun c_3 => ?_) (fun c_3 => absurd (nI_le (a := 341) (b := 341) (Nat.le_refl _) (by omega)) c_3)
      refine lv_iload_n hx hb dX4_covered_59 rfl (lv_at hl 3 rfl) ?_
      refine lv_aload_n hx hb dX4_covered_60 rfl (lv_at hl 2 rfl) ?_
      refine mt_get S iw_X4 hC hW wc_200 rfl 7 (by decide) mw_fl_X4_28 rfl rfl dX4_covered_61 ?_
      refine lv_iload_n hx hb dX4_covered_64 rfl (lv_at hl 4 rfl) ?_
      refine wk_zaln S hC hW ar_208 k rfl (by have := hM.2.1; omega) (by decide) dX4_covered_65 ?_
      refine lv_if_eq (tgt := 77) hx hb dX4_covered_66 (by decide) (fun c_4 => ?_) (fun c_4 => ?_)
      · refine lv_iconst (v := 0) hx hb dX4_covered_77 (by decide) ?_
        refine lv_iadd hx hb dX4_covered_78 ?_
        refine lv_istore_n (lv' := [(1, .int ((c_X4_covered_ls lc mc bc N G k) + 0)), (4, .int (nI 341)), (3, .int (c_X4_covered_qa lc mc bc N G k 341)), (0, .ref (ad (200))), (2, .int (nI k))]) hx hb dX4_covered_79 rfl hl (by decide) rfl (fun ls hl => ?_)
        refine lv_iinc (v := nI (k + 1)) (lv' := [(2, .int (nI (k + 1))), (1, .int ((c_X4_covered_ls lc mc bc N G k) + 0)), (4, .int (nI 341)), (3, .int (c_X4_covered_qa lc mc bc N G k 341)), (0, .ref (ad (200)))]) hx hb dX4_covered_80 hl (k := 4) rfl (nI_1 _) (by decide) rfl (fun ls hl => ?_)
        refine lv_goto (tgt := 9) hx hb dX4_covered_83 (by decide) ?_
        have hl : lv_has ls 5 [(2, .int (nI (k + 1))), (1, .int (c_X4_covered_ls lc mc bc N G (k + 1))), (0, .ref (ad (200)))] := by rw [show c_X4_covered_ls lc mc bc N G (k + 1) = (c_X4_covered_ls lc mc bc N G k) + 0 from (by rw [c_X4_covered_ls, if_pos c_4])]; exact lv_sub hl [0, 1, 4] rfl
        exact ih _ _ _ trivial hW hS hl
      · refine lv_iload_n hx hb dX4_covered_69 rfl (lv_at hl 1 rfl) ?_
        refine lv_if_ne (tgt := 77) hx hb dX4_covered_70 (by decide) (fun c_5 => ?_) (fun c_5 => ?_)
        · refine lv_iconst (v := 0) hx hb dX4_covered_77 (by decide) ?_
          refine lv_iadd hx hb dX4_covered_78 ?_
          refine lv_istore_n (lv' := [(1, .int ((c_X4_covered_ls lc mc bc N G k) + 0)), (4, .int (nI 341)), (3, .int (c_X4_covered_qa lc mc bc N G k 341)), (0, .ref (ad (200))), (2, .int (nI k))]) hx hb dX4_covered_79 rfl hl (by decide) rfl (fun ls hl => ?_)
          refine lv_iinc (v := nI (k + 1)) (lv' := [(2, .int (nI (k + 1))), (1, .int ((c_X4_covered_ls lc mc bc N G k) + 0)), (4, .int (nI 341)), (3, .int (c_X4_covered_qa lc mc bc N G k 341)), (0, .ref (ad (200)))]) hx hb dX4_covered_80 hl (k := 4) rfl (nI_1 _) (by decide) rfl (fun ls hl => ?_)
          refine lv_goto (tgt := 9) hx hb dX4_covered_83 (by decide) ?_
          have hl : lv_has ls 5 [(2, .int (nI (k + 1))), (1, .int (c_X4_covered_ls lc mc bc N G (k + 1))), (0, .ref (ad (200)))] := by rw [show c_X4_covered_ls lc mc bc N G (k + 1) = (c_X4_covered_ls lc mc bc N G k) + 0 from (by rw [c_X4_covered_ls, if_neg c_4, if_neg c_5])]; exact lv_sub hl [0, 1, 4] rfl
          exact ih _ _ _ trivial hW hS hl
        · refine lv_iconst (v := 1) hx hb dX4_covered_73 (by decide) ?_
          refine lv_goto (tgt := 78) hx hb dX4_covered_74 (by decide) ?_
          refine lv_iadd hx hb dX4_covered_78 ?_
          refine lv_istore_n (lv' := [(1, .int ((c_X4_covered_ls lc mc bc N G k) + 1)), (4, .int (nI 341)), (3, .int (c_X4_covered_qa lc mc bc N G k 341)), (0, .ref (ad (200))), (2, .int (nI k))]) hx hb dX4_covered_79 rfl hl (by decide) rfl (fun ls hl => ?_)
          refine lv_iinc (v := nI (k + 1)) (lv' := [(2, .int (nI (k + 1))), (1, .int ((c_X4_covered_ls lc mc bc N G k) + 1)), (4, .int (nI 341)), (3, .int (c_X4_covered_qa lc mc bc N G k 341)), (0, .ref (ad (200)))]) hx hb dX4_covered_80 hl (k := 4) rfl (nI_1 _) (by decide) rfl (fun ls hl => ?_)
          refine lv_goto (tgt := 9) hx hb dX4_covered_83 (by decide) ?_
          have hl : lv_has ls 5 [(2, .int (nI (k + 1))), (1, .int (c_X4_covered_ls lc mc bc N G (k + 1))), (0, .ref (ad (200)))] := by rw [show c_X4_covered_ls lc mc bc N G (k + 1) = (c_X4_covered_ls lc mc bc N G k) + 1 from (by rw [c_X4_covered_ls, if_neg c_4, if_pos c_5])]; exact lv_sub hl [0, 1, 4] rfl
          exact ih _ _ _ trivial hW hS hl
    · have hW : mt_W g z (mt_wc g ad lc mc bc (mt_gu N 200 15 0) G o d) ad _ := hW
      have hl : lv_has ls 5 [(4, .int (nI j)), (3, .int (c_X4_covered_qa lc mc bc N G k j)), (0, .ref (ad (200))), (1, .int (c_X4_covered_ls lc mc bc N G k)), (2, .int (nI k))] := hl
      refine lv_iload hx hb dX4_covered_22 (lv_at hl 0 rfl) ?_
      refine lv_sipush (v := 341) hx hb dX4_covered_24 (by decide) ?_
      refine lv_icmp_ge (tgt := 59) hx hb dX4_covered_27 (by decide) (fun c_6 => absurd c_6 (nI_ge (a := j) (b := 341) hjn (by omega))) (fun c_6 => ?_)
      refine lv_iload_n hx hb dX4_covered_30 rfl (lv_at hl 1 rfl) ?_
      refine lv_if_ne (tgt := 47) hx hb dX4_covered_31 (by decide) (fun c_7 => ?_) (fun c_7 => ?_)
      · refine lv_iconst (v := 1) hx hb dX4_covered_47 (by decide) ?_
        refine lv_goto (tgt := 52) hx hb dX4_covered_48 (by decide) ?_
        refine lv_istore_n (lv' := [(3, .int (1)), (4, .int (nI j)), (0, .ref (ad (200))), (1, .int (c_X4_covered_ls lc mc bc N G k)), (2, .int (nI k))]) hx hb dX4_covered_52 rfl hl (by decide) rfl (fun ls hl => ?_)
        refine lv_iinc (v := nI (j + 1)) (lv' := [(4, .int (nI (j + 1))), (3, .int (1)), (0, .ref (ad (200))), (1, .int (c_X4_covered_ls lc mc bc N G k)), (2, .int (nI k))]) hx hb dX4_covered_53 hl (k := 1) rfl (nI_1 _) (by decide) rfl (fun ls hl => ?_)
        refine lv_goto (tgt := 22) hx hb dX4_covered_56 (by decide) ?_
        have hl : lv_has ls 5 [(4, .int (nI (j + 1))), (3, .int (c_X4_covered_qa lc mc bc N G k (j + 1))), (0, .ref (ad (200))), (1, .int (c_X4_covered_ls lc mc bc N G k)), (2, .int (nI k))] := by rw [show c_X4_covered_qa lc mc bc N G k (j + 1) = 1 from (by rw [c_X4_covered_qa, if_neg c_7])]; exact lv_sub hl [0, 1, 2, 3, 4] rfl
        exact ihj _ _ _ trivial hW hS hl
      · refine lv_aload_n hx hb dX4_covered_34 rfl (lv_at hl 2 rfl) ?_
        refine lv_iload hx hb dX4_covered_35 (lv_at hl 0 rfl) ?_
        refine mt_cS1 (As := [.int (nI j)]) (rest := [.ref (ad (200))]) S ps_X4_pathOf mw_ml_X4_93 (k_X4_pathOf l hlt g z ad lc mc bc (mt_gu N 200 15 0) G o d h6 h8 hb6 (nI j) (isR_nI (by omega))) hC hW hS rfl hl.1 rfl (Nat.le_of_ble_eq_true rfl) dX4_covered_37 ⟨(Nat.le_of_ble_eq_true rfl), (Nat.le_of_ble_eq_true rfl)⟩ ⟨(Nat.le_of_ble_eq_true rfl), (Nat.le_of_ble_eq_true rfl)⟩ rfl (fun H locs hW hS => ?_)
        refine mt_cV1 (As := [.int (c_X4_pathOf (nI j))]) (rest := []) S pv_X4_servedBy mw_ml_X4_90 (k_X4_servedBy l hlt g z ad lc mc bc (mt_gu N 200 15 0) G o d h6 h8 hb6 (c_X4_pathOf (nI j)) (by repeat (first | exact hM | exact hP | apply MI_t)) (pathOf_P (isR_nI (by omega))).1) hC hW hS wc_200 rfl rfl rfl hl.1 rfl (Nat.le_of_ble_eq_true rfl) dX4_covered_40 ⟨(Nat.le_of_ble_eq_true rfl), (Nat.le_of_ble_eq_true rfl)⟩ ⟨(Nat.le_of_ble_eq_true rfl), (Nat.le_of_ble_eq_true rfl)⟩ rfl (fun H locs hW hS => ?_)
        refine mt_te (y := c_X4_servedBy lc mc bc N G (c_X4_pathOf (nI j))) rfl ?_
        refine lv_iload_n hx hb dX4_covered_43 rfl (lv_at hl 4 rfl) ?_
        refine lv_icmp_ne (tgt := 51) hx hb dX4_covered_44 (by decide) (fun c_8 => ?_) (fun c_8 => ?_)
        · refine lv_iconst (v := 0) hx hb dX4_covered_51 (by decide) ?_
          refine lv_istore_n (lv' := [(3, .int (0)), (4, .int (nI j)), (0, .ref (ad (200))), (1, .int (c_X4_covered_ls lc mc bc N G k)), (2, .int (nI k))]) hx hb dX4_covered_52 rfl hl (by decide) rfl (fun ls hl => ?_)
          refine lv_iinc (v := nI (j + 1)) (lv' := [(4, .int (nI (j + 1))), (3, .int (0)), (0, .ref (ad (200))), (1, .int (c_X4_covered_ls lc mc bc N G k)), (2, .int (nI k))]) hx hb dX4_covered_53 hl (k := 1) rfl (nI_1 _) (by decide) rfl (fun ls hl => ?_)
          refine lv_goto (tgt := 22) hx hb dX4_covered_56 (by decide) ?_
          have hl : lv_has ls 5 [(4, .int (nI (j + 1))), (3, .int (c_X4_covered_qa lc mc bc N G k (j + 1))), (0, .ref (ad (200))), (1, .int (c_X4_covered_ls lc mc bc N G k)), (2, .int (nI k))] := by rw [show c_X4_covered_qa lc mc bc N G k (j + 1) = 0 from (by rw [c_X4_covered_qa, if_pos c_7, if_neg c_8])]; exact lv_sub hl [0, 1, 2, 3, 4] rfl
          exact ihj _ _ _ trivial hW hS hl
        · refine lv_iconst (v := 1) hx hb dX4_covered_47 (by decide) ?_
          refine lv_goto (tgt := 52) hx hb dX4_covered_48 (by decide) ?_
          refine lv_istore_n (lv' := [(3, .int (1)), (4, .int (nI j)), (0, .ref (ad (200))), (1, .int (c_X4_covered_ls lc mc bc N G k)), (2, .int (nI k))]) hx hb dX4_covered_52 rfl hl (by decide) rfl (fun ls hl => ?_)
          refine lv_iinc (v := nI (j + 1)) (lv' := [(4, .int (nI (j + 1))), (3, .int (1)), (0, .ref (ad (200))), (1, .int (c_X4_covered_ls lc mc bc N G k)), (2, .int (nI k))]) hx hb dX4_covered_53 hl (k := 1) rfl (nI_1 _) (by decide) rfl (fun ls hl => ?_)
          refine lv_goto (tgt := 22) hx hb dX4_covered_56 (by decide) ?_
          have hl : lv_has ls 5 [(4, .int (nI (j + 1))), (3, .int (c_X4_covered_qa lc mc bc N G k (j + 1))), (0, .ref (ad (200))), (1, .int (c_X4_covered_ls lc mc bc N G k)), (2, .int (nI k))] := by rw [show c_X4_covered_qa lc mc bc N G k (j + 1) = 1 from (by rw [c_X4_covered_qa, if_pos c_7, if_pos c_8])]; exact lv_sub hl [0, 1, 2, 3, 4] rfl
          exact ihj _ _ _ trivial hW hS hl
def c_X4_bytesShown (lc mc bc : Nat) (N G : Nat → Nat → Int32) : Int32 := c_bs_l lc mc bc N G 2046
set_option maxRecDepth 100000 in
set_option maxHeartbeats 4000000 in
theorem k_X4_bytesShown (l : Launch) (hlt : l.stackTraces = false) (g : mt_G) (z : Nat) (ad : Nat → Nat) (lc mc bc : Nat) (N G : Nat → Nat → Int32) (o : Nat → Int64) (d : mt_D) (h6 : lc ≤ 6) (h8 : mc ≤ 8) (hb6 : bc ≤ 6)  (hM : MI N G) : mt_K l g z yX4_bytesShown cX4_bytesShown 5 (some .int) 4 93 0 0 [.ref (ad (200))] (mt_wc g ad lc mc bc N G o d) ad (.inr (some (.int (c_X4_bytesShown lc mc bc N G)))) (mt_wc g ad lc mc bc N G o d) ad := by
  refine mt_ofW (by decide +kernel) (Nat.le_of_ble_eq_true rfl) ?_
  intro p e s m args below meth c S hr9 hk hnm hout hC hW hS ls hl
  have hr := hr9
  have hx := S.1
  have hb := S.2.1
  have hl : lv_has ls 5 [(0, .ref (ad (200)))] := hl
  refine lv_iconst (v := 0) hx hb dX4_bytesShown_0 (by decide) ?_
  refine lv_istore_n (lv' := [(1, .int (0)), (0, .ref (ad (200)))]) hx hb dX4_bytesShown_1 rfl hl (by decide) rfl (fun ls hl => ?_)
  refine lv_iconst (v := 0) hx hb dX4_bytesShown_2 (by decide) ?_
  refine lv_istore_n (lv' := [(2, .int (0)), (1, .int (0)), (0, .ref (ad (200)))]) hx hb dX4_bytesShown_3 rfl hl (by decide) rfl (fun ls hl => ?_)
  have hl : lv_has ls 5 [(2, .int (nI 0)), (1, .int (c_bs_l lc mc bc N G 0)), (0, .ref (ad (200)))] := lv_sub hl [0, 1, 2] rfl
  refine lp_up 2046 (fun k => mt_wc g ad lc mc bc N G o d) (fun k => [(2, .int (nI k)), (1, .int (c_bs_l lc mc bc N G k)), (0, .ref (ad (200)))]) (fun _ => True) 0 (by omega) trivial hW hS hl (fun H locs ls hP hW hS hl => ?_) (fun k H locs ls hk0 hkn hP hW hS hl ih => ?_)
  · have hW : mt_W g z (mt_wc g ad lc mc bc N G o d) ad _ := hW
    have hl : lv_has ls 5 [(2, .int (nI 2046)), (1, .int (c_bs_l lc mc bc N G 2046)), (0, .ref (ad (200)))] := hl
    refine lv_iload_n hx hb dX4_bytesShown_4 rfl (lv_at hl 0 rfl) ?_
    refine lv_sipush (v := 2046) hx hb dX4_bytesShown_5 (by decide) ?_
    refine lv_icmp_ge (tgt := 86) hx hb dX4_bytesShown_8 (by decide) (fun c_1 => ?_) (fun c_1 => absurd (nI_le (a := 2046) (b := 2046) (Nat.le_refl _) (by omega)) c_1)
    refine lv_iload_n hx hb dX4_bytesShown_86 rfl (lv_at hl 1 rfl) ?_
    exact mt_ri S hr hk hW hS rfl (Nat.le_of_ble_eq_true rfl) (Nat.le_of_ble_eq_true rfl) dX4_bytesShown_87
  · have hW : mt_W g z (mt_wc g ad lc mc bc N G o d) ad _ := hW
    have hl : lv_has ls 5 [(2, .int (nI k)), (1, .int (c_bs_l lc mc bc N G k)), (0, .ref (ad (200)))] := hl
    refine lv_iload_n hx hb dX4_bytesShown_4 rfl (lv_at hl 0 rfl) ?_
    refine lv_sipush (v := 2046) hx hb dX4_bytesShown_5 (by decide) ?_
    refine lv_icmp_ge (tgt := 86) hx hb dX4_bytesShown_8 (by decide) (fun c_2 => absurd c_2 (nI_ge (a := k) (b := 2046) hkn (by omega))) (fun c_2 => ?_)
    refine lv_iconst (v := 0) hx hb dX4_bytesShown_11 (by decide) ?_
    refine lv_istore_n (lv' := [(3, .int (0)), (2, .int (nI k)), (1, .int (c_bs_l lc mc bc N G k)), (0, .ref (ad (200)))]) hx hb dX4_bytesShown_12 rfl hl (by decide) rfl (fun ls hl => ?_)
    refine lv_iconst (v := 1) hx hb dX4_bytesShown_13 (by decide) ?_
    refine lv_istore (lv' := [(4, .int (1)), (3, .int (0)), (2, .int (nI k)), (1, .int (c_bs_l lc mc bc N G k)), (0, .ref (ad (200)))]) hx hb dX4_bytesShown_14 hl (by decide) rfl (fun ls hl => ?_)
    have hl : lv_has ls 5 [(4, .int (nI 1)), (3, .int (c_bs_a lc mc bc N G (nI k) 1)), (0, .ref (ad (200))), (1, .int (c_bs_l lc mc bc N G k)), (2, .int (nI k))] := by rw [show c_bs_a lc mc bc N G (nI k) 1 = 0 from bs_1]; exact lv_sub hl [0, 1, 4, 3, 2] rfl
    refine lp_up 341 (fun j => mt_wc g ad lc mc bc N G o d) (fun j => [(4, .int (nI j)), (3, .int (c_bs_a lc mc bc N G (nI k) j)), (0, .ref (ad (200))), (1, .int (c_bs_l lc mc bc N G k)), (2, .int (nI k))]) (fun j => j = 1 ∨ G 201 k = 1) 1 (by omega) (Or.inl rfl) hW hS hl (fun H locs ls hP hW hS hl => ?_) (fun j H locs ls hj0 hjn hP hW hS hl ihj => ?_)
    · have hW : mt_W g z (mt_wc g ad lc mc bc N G o d) ad _ := hW
      have hl : lv_has ls 5 [(4, .int (nI 341)), (3, .int (c_bs_a lc mc bc N G (nI k) 341)), (0, .ref (ad (200))), (1, .int (c_bs_l lc mc bc N G k)), (2, .int (nI k))] := hl
      have hP : 341 = 1 ∨ G 201 k = 1 := hP
      refine lv_iload hx hb dX4_bytesShown_16 (lv_at hl 0 rfl) ?_
      refine lv_sipush (v := 341) hx hb dX4_bytesShown_18 (by decide) ?_
      refine lv_icmp_ge (tgt := 63) hx hb dX4_bytesShown_21 (by decide) (fun c_3 => ?_) (fun c_3 => absurd (nI_le (a := 341) (b := 341) (Nat.le_refl _) (by omega)) c_3)
      refine lv_iload_n hx hb dX4_bytesShown_63 rfl (lv_at hl 3 rfl) ?_
      refine lv_iload_n hx hb dX4_bytesShown_64 rfl (lv_at hl 1 rfl) ?_
      refine lv_if_eq (tgt := 77) hx hb dX4_bytesShown_65 (by decide) (fun c_4 => ?_) (fun c_4 => ?_)
      · refine lv_iconst (v := 0) hx hb dX4_bytesShown_77 (by decide) ?_
        refine lv_iadd hx hb dX4_bytesShown_78 ?_
        refine lv_istore_n (lv' := [(1, .int ((c_bs_l lc mc bc N G k) + 0)), (4, .int (nI 341)), (3, .int (c_bs_a lc mc bc N G (nI k) 341)), (0, .ref (ad (200))), (2, .int (nI k))]) hx hb dX4_bytesShown_79 rfl hl (by decide) rfl (fun ls hl => ?_)
        refine lv_iinc (v := nI (k + 1)) (lv' := [(2, .int (nI (k + 1))), (1, .int ((c_bs_l lc mc bc N G k) + 0)), (4, .int (nI 341)), (3, .int (c_bs_a lc mc bc N G (nI k) 341)), (0, .ref (ad (200)))]) hx hb dX4_bytesShown_80 hl (k := 4) rfl (nI_1 _) (by decide) rfl (fun ls hl => ?_)
        refine lv_goto (tgt := 4) hx hb dX4_bytesShown_83 (by decide) ?_
        have hl : lv_has ls 5 [(2, .int (nI (k + 1))), (1, .int (c_bs_l lc mc bc N G (k + 1))), (0, .ref (ad (200)))] := by rw [show c_bs_l lc mc bc N G (k + 1) = (c_bs_l lc mc bc N G k) + 0 from (bs_0 (bs_k hP) c_4)]; exact lv_sub hl [0, 1, 4] rfl
        exact ih _ _ _ trivial hW hS hl
      · refine lv_aload_n hx hb dX4_bytesShown_68 rfl (lv_at hl 2 rfl) ?_
        refine mt_get S iw_X4 hC hW wc_200 rfl 2 (by decide) mw_fl_X4_16 rfl rfl dX4_bytesShown_69 ?_
        refine lv_iload_n hx hb dX4_bytesShown_72 rfl (lv_at hl 4 rfl) ?_
        refine wk_ialn S hC hW ar_203 k rfl (by omega) (by decide) dX4_bytesShown_73 ?_
        refine lv_goto (tgt := 78) hx hb dX4_bytesShown_74 (by decide) ?_
        refine lv_iadd hx hb dX4_bytesShown_78 ?_
        refine lv_istore_n (lv' := [(1, .int ((c_bs_l lc mc bc N G k) + (G 203 k))), (4, .int (nI 341)), (3, .int (c_bs_a lc mc bc N G (nI k) 341)), (0, .ref (ad (200))), (2, .int (nI k))]) hx hb dX4_bytesShown_79 rfl hl (by decide) rfl (fun ls hl => ?_)
        refine lv_iinc (v := nI (k + 1)) (lv' := [(2, .int (nI (k + 1))), (1, .int ((c_bs_l lc mc bc N G k) + (G 203 k))), (4, .int (nI 341)), (3, .int (c_bs_a lc mc bc N G (nI k) 341)), (0, .ref (ad (200)))]) hx hb dX4_bytesShown_80 hl (k := 4) rfl (nI_1 _) (by decide) rfl (fun ls hl => ?_)
        refine lv_goto (tgt := 4) hx hb dX4_bytesShown_83 (by decide) ?_
        have hl : lv_has ls 5 [(2, .int (nI (k + 1))), (1, .int (c_bs_l lc mc bc N G (k + 1))), (0, .ref (ad (200)))] := by rw [show c_bs_l lc mc bc N G (k + 1) = (c_bs_l lc mc bc N G k) + (G 203 k) from (bs_y (j := 341) (bs_k hP) (by omega) (by omega) c_4)]; exact lv_sub hl [0, 1, 4] rfl
        exact ih _ _ _ trivial hW hS hl
    · have hW : mt_W g z (mt_wc g ad lc mc bc N G o d) ad _ := hW
      have hl : lv_has ls 5 [(4, .int (nI j)), (3, .int (c_bs_a lc mc bc N G (nI k) j)), (0, .ref (ad (200))), (1, .int (c_bs_l lc mc bc N G k)), (2, .int (nI k))] := hl
      have hP : j = 1 ∨ G 201 k = 1 := hP
      refine lv_iload hx hb dX4_bytesShown_16 (lv_at hl 0 rfl) ?_
      refine lv_sipush (v := 341) hx hb dX4_bytesShown_18 (by decide) ?_
      refine lv_icmp_ge (tgt := 63) hx hb dX4_bytesShown_21 (by decide) (fun c_5 => absurd c_5 (nI_ge (a := j) (b := 341) hjn (by omega))) (fun c_5 => ?_)
      refine lv_aload_n hx hb dX4_bytesShown_24 rfl (lv_at hl 2 rfl) ?_
      refine mt_get S iw_X4 hC hW wc_200 rfl 0 (by decide) mw_fl_X4_7 rfl rfl dX4_bytesShown_25 ?_
      refine lv_iload_n hx hb dX4_bytesShown_28 rfl (lv_at hl 4 rfl) ?_
      refine wk_ialn S hC hW ar_201 k rfl (by omega) (by decide) dX4_bytesShown_29 ?_
      refine lv_iconst (v := 1) hx hb dX4_bytesShown_30 (by decide) ?_
      refine lv_icmp_ne (tgt := 63) hx hb dX4_bytesShown_31 (by decide) (fun c_6 => ?_) (fun c_6 => ?_)
      · refine lv_iload_n hx hb dX4_bytesShown_63 rfl (lv_at hl 3 rfl) ?_
        refine lv_iload_n hx hb dX4_bytesShown_64 rfl (lv_at hl 1 rfl) ?_
        refine lv_if_eq (tgt := 77) hx hb dX4_bytesShown_65 (by decide) (fun c_7 => ?_) (fun c_7 => absurd (bs_z hP c_6) c_7)
        refine lv_iconst (v := 0) hx hb dX4_bytesShown_77 (by decide) ?_
        refine lv_iadd hx hb dX4_bytesShown_78 ?_
        refine lv_istore_n (lv' := [(1, .int ((c_bs_l lc mc bc N G k) + 0)), (4, .int (nI j)), (3, .int (c_bs_a lc mc bc N G (nI k) j)), (0, .ref (ad (200))), (2, .int (nI k))]) hx hb dX4_bytesShown_79 rfl hl (by decide) rfl (fun ls hl => ?_)
        refine lv_iinc (v := nI (k + 1)) (lv' := [(2, .int (nI (k + 1))), (1, .int ((c_bs_l lc mc bc N G k) + 0)), (4, .int (nI j)), (3, .int (c_bs_a lc mc bc N G (nI k) j)), (0, .ref (ad (200)))]) hx hb dX4_bytesShown_80 hl (k := 4) rfl (nI_1 _) (by decide) rfl (fun ls hl => ?_)
        refine lv_goto (tgt := 4) hx hb dX4_bytesShown_83 (by decide) ?_
        have hl : lv_has ls 5 [(2, .int (nI (k + 1))), (1, .int (c_bs_l lc mc bc N G (k + 1))), (0, .ref (ad (200)))] := by rw [show c_bs_l lc mc bc N G (k + 1) = (c_bs_l lc mc bc N G k) + 0 from (bs_n c_6)]; exact lv_sub hl [0, 1, 4] rfl
        exact ih _ _ _ trivial hW hS hl
      · refine lv_iload_n hx hb dX4_bytesShown_34 rfl (lv_at hl 1 rfl) ?_
        refine lv_if_ne (tgt := 63) hx hb dX4_bytesShown_35 (by decide) (fun c_8 => ?_) (fun c_8 => ?_)
        · refine lv_iload_n hx hb dX4_bytesShown_63 rfl (lv_at hl 3 rfl) ?_
          refine lv_iload_n hx hb dX4_bytesShown_64 rfl (lv_at hl 1 rfl) ?_
          refine lv_if_eq (tgt := 77) hx hb dX4_bytesShown_65 (by decide) (fun c_9 => absurd c_9 c_8) (fun c_9 => ?_)
          refine lv_aload_n hx hb dX4_bytesShown_68 rfl (lv_at hl 2 rfl) ?_
          refine mt_get S iw_X4 hC hW wc_200 rfl 2 (by decide) mw_fl_X4_16 rfl rfl dX4_bytesShown_69 ?_
          refine lv_iload_n hx hb dX4_bytesShown_72 rfl (lv_at hl 4 rfl) ?_
          refine wk_ialn S hC hW ar_203 k rfl (by omega) (by decide) dX4_bytesShown_73 ?_
          refine lv_goto (tgt := 78) hx hb dX4_bytesShown_74 (by decide) ?_
          refine lv_iadd hx hb dX4_bytesShown_78 ?_
          refine lv_istore_n (lv' := [(1, .int ((c_bs_l lc mc bc N G k) + (G 203 k))), (4, .int (nI j)), (3, .int (c_bs_a lc mc bc N G (nI k) j)), (0, .ref (ad (200))), (2, .int (nI k))]) hx hb dX4_bytesShown_79 rfl hl (by decide) rfl (fun ls hl => ?_)
          refine lv_iinc (v := nI (k + 1)) (lv' := [(2, .int (nI (k + 1))), (1, .int ((c_bs_l lc mc bc N G k) + (G 203 k))), (4, .int (nI j)), (3, .int (c_bs_a lc mc bc N G (nI k) j)), (0, .ref (ad (200)))]) hx hb dX4_bytesShown_80 hl (k := 4) rfl (nI_1 _) (by decide) rfl (fun ls hl => ?_)
          refine lv_goto (tgt := 4) hx hb dX4_bytesShown_83 (by decide) ?_
          have hl : lv_has ls 5 [(2, .int (nI (k + 1))), (1, .int (c_bs_l lc mc bc N G (k + 1))), (0, .ref (ad (200)))] := by rw [show c_bs_l lc mc bc N G (k + 1) = (c_bs_l lc mc bc N G k) + (G 203 k) from (bs_y c_6 hj0 (by omega) c_8)]; exact lv_sub hl [0, 1, 4] rfl
          exact ih _ _ _ trivial hW hS hl
        · refine lv_aload_n hx hb dX4_bytesShown_38 rfl (lv_at hl 2 rfl) ?_
          refine lv_iload hx hb dX4_bytesShown_39 (lv_at hl 0 rfl) ?_
          refine mt_cS1 (As := [.int (nI j)]) (rest := [.ref (ad (200))]) S ps_X4_pathOf mw_ml_X4_93 (k_X4_pathOf l hlt g z ad lc mc bc N G o d h6 h8 hb6 (nI j) (isR_nI (by omega))) hC hW hS rfl hl.1 rfl (Nat.le_of_ble_eq_true rfl) dX4_bytesShown_41 ⟨(Nat.le_of_ble_eq_true rfl), (Nat.le_of_ble_eq_true rfl)⟩ ⟨(Nat.le_of_ble_eq_true rfl), (Nat.le_of_ble_eq_true rfl)⟩ rfl (fun H locs hW hS => ?_)
          refine mt_cV1 (As := [.int (c_X4_pathOf (nI j))]) (rest := []) S pv_X4_shown mw_ml_X4_107 (k_X4_shown l hlt g z ad lc mc bc N G o d h6 h8 hb6 (c_X4_pathOf (nI j)) (by repeat (first | exact hM | exact hP | apply MI_t)) (pathOf_P (isR_nI (by omega))).1) hC hW hS wc_200 rfl rfl rfl hl.1 rfl (Nat.le_of_ble_eq_true rfl) dX4_bytesShown_44 ⟨(Nat.le_of_ble_eq_true rfl), (Nat.le_of_ble_eq_true rfl)⟩ ⟨(Nat.le_of_ble_eq_true rfl), (Nat.le_of_ble_eq_true rfl)⟩ rfl (fun H locs hW hS => ?_)
          refine lv_iload_n hx hb dX4_bytesShown_47 rfl (lv_at hl 4 rfl) ?_
          refine lv_icmp_ne (tgt := 55) hx hb dX4_bytesShown_48 (by decide) (fun c_10 => ?_) (fun c_10 => ?_)
          · refine lv_iconst (v := 0) hx hb dX4_bytesShown_55 (by decide) ?_
            refine lv_istore_n (lv' := [(3, .int (0)), (4, .int (nI j)), (0, .ref (ad (200))), (1, .int (c_bs_l lc mc bc N G k)), (2, .int (nI k))]) hx hb dX4_bytesShown_56 rfl hl (by decide) rfl (fun ls hl => ?_)
            refine lv_iinc (v := nI (j + 1)) (lv' := [(4, .int (nI (j + 1))), (3, .int (0)), (0, .ref (ad (200))), (1, .int (c_bs_l lc mc bc N G k)), (2, .int (nI k))]) hx hb dX4_bytesShown_57 hl (k := 1) rfl (nI_1 _) (by decide) rfl (fun ls hl => ?_)
            refine lv_goto (tgt := 16) hx hb dX4_bytesShown_60 (by decide) ?_
            have hl : lv_has ls 5 [(4, .int (nI (j + 1))), (3, .int (c_bs_a lc mc bc N G (nI k) (j + 1))), (0, .ref (ad (200))), (1, .int (c_bs_l lc mc bc N G k)), (2, .int (nI k))] := by rw [show c_bs_a lc mc bc N G (nI k) (j + 1) = 0 from (by rw [c_bs_a, if_neg (by omega), if_pos c_8, if_neg c_10])]; exact lv_sub hl [0, 1, 2, 3, 4] rfl
            exact ihj _ _ _ (Or.inr c_6) hW hS hl
          · refine lv_iconst (v := 1) hx hb dX4_bytesShown_51 (by decide) ?_
            refine lv_goto (tgt := 56) hx hb dX4_bytesShown_52 (by decide) ?_
            refine lv_istore_n (lv' := [(3, .int (1)), (4, .int (nI j)), (0, .ref (ad (200))), (1, .int (c_bs_l lc mc bc N G k)), (2, .int (nI k))]) hx hb dX4_bytesShown_56 rfl hl (by decide) rfl (fun ls hl => ?_)
            refine lv_iinc (v := nI (j + 1)) (lv' := [(4, .int (nI (j + 1))), (3, .int (1)), (0, .ref (ad (200))), (1, .int (c_bs_l lc mc bc N G k)), (2, .int (nI k))]) hx hb dX4_bytesShown_57 hl (k := 1) rfl (nI_1 _) (by decide) rfl (fun ls hl => ?_)
            refine lv_goto (tgt := 16) hx hb dX4_bytesShown_60 (by decide) ?_
            have hl : lv_has ls 5 [(4, .int (nI (j + 1))), (3, .int (c_bs_a lc mc bc N G (nI k) (j + 1))), (0, .ref (ad (200))), (1, .int (c_bs_l lc mc bc N G k)), (2, .int (nI k))] := by rw [show c_bs_a lc mc bc N G (nI k) (j + 1) = 1 from (by rw [c_bs_a, if_neg (by omega), if_pos c_8, if_pos c_10])]; exact lv_sub hl [0, 1, 2, 3, 4] rfl
            exact ihj _ _ _ (Or.inr c_6) hW hS hl
theorem bsa_t {lc mc bc : Nat} {N G : Nat → Nat → Int32} {v a : Int32} (k : Nat) : c_bs_a lc mc bc (mt_gu N 200 15 v) G a k = c_bs_a lc mc bc N G a k := by
  induction k with
  | zero => rfl
  | succ k ih => rw [c_bs_a, c_bs_a, ih]; rfl
theorem bsl_t {lc mc bc : Nat} {N G : Nat → Nat → Int32} {v : Int32} (k : Nat) : c_bs_l lc mc bc (mt_gu N 200 15 v) G k = c_bs_l lc mc bc N G k := by
  induction k with
  | zero => rfl
  | succ k ih => rw [c_bs_l, c_bs_l, ih, c_bs_i, c_bs_i, bsa_t]
theorem bytesShown_t {lc mc bc : Nat} {N G : Nat → Nat → Int32} {v : Int32} : c_X4_bytesShown lc mc bc (mt_gu N 200 15 v) G = c_X4_bytesShown lc mc bc N G := bsl_t 2046

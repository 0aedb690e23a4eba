section MTR
variable {p : Program} {l : Launch} {e : Env} {R : Room} {s : State} {m : MethodId} {args : Array Value} {below : List Frame} {meth : Method} {c : Code} {H : Heap} {locs : List Loc} {cells slots : Nat} {Q : State → Prop}
variable {cc : ByteArray} {nL pc : Nat} {ls : Array Slot} {rest : List Value} {g : mt_G} {z : Nat} {w : mt_w} {ad : Nat → Nat} {w0 : Cond} {own : String}
theorem mt_newq2 (S : CallFix p m c cc nL s args (w0 :: mt_T) own) (hC : mt_C g z s) (hW : mt_W g z w ad H) (hS : va_S (mt_A z) s.heap H locs) (t : Nat) {C : String} {index : Nat} (hclink : (Cond.classLink own index C) ∈ mt_T) (hover : C ∈ mt_ao) (ht : (mt_tys g)[t]? = some (g.2 t, .object C)) (k : Nat) (hk : w k = none) {n : Int32} {N' : Nat} (hn : ¬ n < 0) (hN : n.toNatClampNeg = N') (hbytes : N' * 4 ≤ 536870912) (hcells : cells + 1 ≤ R.cells) (hslots : slots + N' ≤ R.slots) (hdg : decode cc pc = .ok (.anewarray index, 3))
    (kk : ∀ (q : Nat) (H1 : Heap), mt_W g z (mt_up w k (.inl (g.2 t, N', .inr (.inr (.inr (.inr (fun _ => none))))))) (mt_ua ad k q) H1 → va_S (mt_A z) s.heap H1 locs → W p l e R s m args below meth c H1 locs (cells + 1) (slots + N') Q (F0 m (pc + 3) ls (.ref q :: rest))) : W p l e R s m args below meth c H locs cells slots Q (F0 m pc ls (.int n :: rest)) := by
  obtain ⟨hx, hb, -, hown, hts⟩ := S
  subst hN
  have hzH : z ≤ H.size := Nat.le_trans hC.2.1 hS.1
  refine W.anew hx hb hown (hts _ (List.mem_cons_of_mem _ hclink)) (va_AO.use (hC.2.2.2.2.2.2.2 C hover)) rfl hdg rfl hn hbytes hcells hslots fun cA kA comp f1 f2 f3 f4 => ?_
  generalize hH1 : H.push ({ cls := cA, slots := Array.replicate n.toNatClampNeg .null, vm := .none } : Cell) = H1
  have z1 : H1.size = H.size + 1 := by rw [← hH1, Array.size_push]
  have e1 : H1[H.size]? = some (arrV cA n.toNatClampNeg (fun _ => .null)) := by rw [← hH1, Array.getElem?_push_size, ← arrV_new]
  have o1 : ∀ q : Nat, q < H.size → H1[q]? = H[q]? := fun q hq => by rw [← hH1, Array.getElem?_push, if_neg (Nat.ne_of_lt hq)]
  have hcA : cA = g.2 t := by
    obtain ⟨kA9, comp9, -, -, -, h9⟩ := (hC.1.2 t _ ht).2
    exact Option.some.inj (f1.symm.trans h9)
  subst hcA
  refine kk H.size H1 (hW.add hk hzH ?_ o1) ⟨Nat.le_trans hS.1 (by omega), fun x h1 h2 => (o1 x (Nat.lt_of_lt_of_le h1 hS.1)).trans (hS.2.1 x h1 h2), hS.2.2⟩
  show H1[H.size]? = some (vp_cell _ _)
  rw [vp_cell_q]
  exact e1
end MTR
theorem mt_up_eq {w : mt_w} {k : Nat} {e : va_E} : mt_up w k e k = some e := by unfold mt_up; rw [if_pos rfl]
theorem mt_up_ne {w : mt_w} {k b : Nat} {e : va_E} (h : b ≠ k) : mt_up w k e b = w b := by unfold mt_up; rw [if_neg h]
theorem mt_ua_eq {ad : Nat → Nat} {k q : Nat} : mt_ua ad k q k = q := by unfold mt_ua; rw [if_pos rfl]
theorem mt_ua_ne {ad : Nat → Nat} {k q b : Nat} (h : b ≠ k) : mt_ua ad k q b = ad b := by unfold mt_ua; rw [if_neg h]
theorem mt_up2 {w : mt_w} {k : Nat} {e f : va_E} : mt_up (mt_up w k e) k f = mt_up w k f := by
  funext b; unfold mt_up; by_cases h : b = k <;> simp [h]
theorem mt_upc {w : mt_w} {i j : Nat} {e f : va_E} (h : i ≠ j) : mt_up (mt_up w i e) j f = mt_up (mt_up w j f) i e := by
  funext b; unfold mt_up
  by_cases h1 : b = i
  · subst h1; rw [if_neg h, if_pos rfl, if_pos rfl]
  · rw [if_neg h1, if_neg h1]
theorem c_fill {n k : Nat} {x : Int32} (hk : k < n) (hn : n < 2 ^ 31) : upd (fun j => if j < k then x else 0) (nI k).toNatClampNeg x = fun j => if j < k + 1 then x else (0 : Int32) := by
  rw [nI_clamp (Nat.lt_trans hk hn)]
  funext j
  unfold upd
  by_cases h : j = k
  · subst h; simp
  · rw [if_neg h]
    show (if j < k then x else 0) = _
    by_cases h2 : j < k
    · rw [if_pos h2, if_pos (by omega)]
    · rw [if_neg h2, if_neg (by omega)]
theorem pI_X0 : mt_pI yX0_init cX0_init 2 1 := ⟨mw_im_X0_init, mw_in_X0, mw_co_X0_init, rfl, by decide +kernel, by decide +kernel, by decide +kernel⟩
theorem pI_X1 : mt_pI yX1_init cX1_init 1 0 := ⟨mw_im_X1_init, mw_in_X1, mw_co_X1_init, rfl, by decide +kernel, by decide +kernel, by decide +kernel⟩
theorem pI_X2 : mt_pI yX2_init cX2_init 4 3 := ⟨mw_im_X2_init, mw_in_X2, mw_co_X2_init, rfl, by decide +kernel, by decide +kernel, by decide +kernel⟩
theorem pI_X3 : mt_pI yX3_init cX3_init 2 0 := ⟨mw_im_X3_init, mw_in_X3, mw_co_X3_init, rfl, by decide +kernel, by decide +kernel, by decide +kernel⟩
theorem pI_X4 : mt_pI yX4_init cX4_init 2 0 := ⟨mw_im_X4_init, mw_in_X4, mw_co_X4_init, rfl, by decide +kernel, by decide +kernel, by decide +kernel⟩
set_option maxRecDepth 100000 in
set_option maxHeartbeats 4000000 in
theorem k_X1_init (l : Launch) (g : mt_G) (z : Nat) (w : mt_w) (ad : Nat → Nat) (k b : Nat) (h0 : ad k = b) (hk0 : w k = some (.inr (3, [.null, .null, .null, .null]))) (hn0 : w (k + 10) = none) (hn1 : w (k + 20) = none) (hn2 : w (k + 30) = none) (hn3 : w (k + 40) = none) : mt_KI l g z yX1_init cX1_init 1 1 20 4 1364 [.ref b] w ad (fun a => mt_up (mt_up (mt_up (mt_up (mt_up w (k + 10) (.inl (g.2 0, 341, .inl (fun _ => 0)))) (k + 20) (.inl (g.2 0, 341, .inl (fun _ => 0)))) (k + 30) (.inl (g.2 0, 341, .inl (fun _ => 0)))) (k + 40) (.inl (g.2 1, 341, .inl (fun _ => 0)))) k (.inr (3, [.ref (a (k + 10)), .ref (a (k + 20)), .ref (a (k + 30)), .ref (a (k + 40))]))) (fun a => ∀ b, b ≠ k + 10 ∧ b ≠ k + 20 ∧ b ≠ k + 30 ∧ b ≠ k + 40 → a b = ad b) := by
  refine mt_ofWI (by decide +kernel) (Nat.le_of_ble_eq_true rfl) ?_
  intro p e s m args below meth c S hr hk hnm hC hW hS ls hl
  have hx := S.1
  have hb := S.2.1
  have hl : lv_has ls 1 [(0, .ref b)] := hl
  refine lv_aload_n hx hb dX1_init_0 rfl (lv_at hl 0 rfl) ?_
  refine mt_objInit S mw_ml_X1_3 mw_im_java_lang_Object__init___V mw_co_java_lang_Object__init___V hl.1 (Nat.le_of_ble_eq_true rfl) dX1_init_1 ⟨(Nat.le_of_ble_eq_true rfl), (Nat.le_of_ble_eq_true rfl)⟩ ?_
  refine lv_aload_n hx hb dX1_init_4 rfl (lv_at hl 0 rfl) ?_
  refine lv_sipush (v := 341) hx hb dX1_init_5 (by decide) ?_
  refine mt_newa (a0 := (341, .inl (fun _ => 0))) (N' := 341) S hC hW hS 0 (ty := .int) rfl mw_ac_int rfl (fun C h => by cases h) (k + 10) (by simp [mt_up, hn0]) (fun _ => rfl) (by decide) (by decide) (by decide) (Nat.le_of_ble_eq_true rfl) (Nat.le_of_ble_eq_true rfl) dX1_init_8 (fun q0 H hW hS => ?_)
  refine mt_putF2 S iw_X1 tyX1 tyX1_ok nmX1 hC hW hS hnm (k) (by simp [mt_ua, h0]) ((mt_up_ne (by omega)).trans hk0) rfl 0 (by decide) mw_fl_X1_9 rfl rfl rfl rfl rfl (Nat.le_of_ble_eq_true rfl) dX1_init_10 (fun H locs hW hS => ?_)
  refine lv_aload_n hx hb dX1_init_13 rfl (lv_at hl 0 rfl) ?_
  refine lv_sipush (v := 341) hx hb dX1_init_14 (by decide) ?_
  refine mt_newa (a0 := (341, .inl (fun _ => 0))) (N' := 341) S hC hW hS 0 (ty := .int) rfl mw_ac_int rfl (fun C h => by cases h) (k + 20) (by simp [mt_up, hn1]) (fun _ => rfl) (by decide) (by decide) (by decide) (Nat.le_of_ble_eq_true rfl) (Nat.le_of_ble_eq_true rfl) dX1_init_17 (fun q1 H hW hS => ?_)
  refine mt_putF2 S iw_X1 tyX1 tyX1_ok nmX1 hC hW hS hnm (k) (by simp [mt_ua, h0]) ((mt_up_ne (by omega)).trans mt_up_eq) rfl 1 (by decide) mw_fl_X1_15 rfl rfl rfl rfl rfl (Nat.le_of_ble_eq_true rfl) dX1_init_19 (fun H locs hW hS => ?_)
  refine lv_aload_n hx hb dX1_init_22 rfl (lv_at hl 0 rfl) ?_
  refine lv_sipush (v := 341) hx hb dX1_init_23 (by decide) ?_
  refine mt_newa (a0 := (341, .inl (fun _ => 0))) (N' := 341) S hC hW hS 0 (ty := .int) rfl mw_ac_int rfl (fun C h => by cases h) (k + 30) (by simp [mt_up, hn2]) (fun _ => rfl) (by decide) (by decide) (by decide) (Nat.le_of_ble_eq_true rfl) (Nat.le_of_ble_eq_true rfl) dX1_init_26 (fun q2 H hW hS => ?_)
  refine mt_putF2 S iw_X1 tyX1 tyX1_ok nmX1 hC hW hS hnm (k) (by simp [mt_ua, h0]) ((mt_up_ne (by omega)).trans mt_up_eq) rfl 2 (by decide) mw_fl_X1_18 rfl rfl rfl rfl rfl (Nat.le_of_ble_eq_true rfl) dX1_init_28 (fun H locs hW hS => ?_)
  refine lv_aload_n hx hb dX1_init_31 rfl (lv_at hl 0 rfl) ?_
  refine lv_sipush (v := 341) hx hb dX1_init_32 (by decide) ?_
  refine mt_newa (a0 := (341, .inl (fun _ => 0))) (N' := 341) S hC hW hS 1 (ty := .boolean) rfl mw_ac_boolean rfl (fun C h => by cases h) (k + 40) (by simp [mt_up, hn3]) (fun _ => rfl) (by decide) (by decide) (by decide) (Nat.le_of_ble_eq_true rfl) (Nat.le_of_ble_eq_true rfl) dX1_init_35 (fun q3 H hW hS => ?_)
  refine mt_putF2 S iw_X1 tyX1 tyX1_ok nmX1 hC hW hS hnm (k) (by simp [mt_ua, h0]) ((mt_up_ne (by omega)).trans mt_up_eq) rfl 3 (by decide) mw_fl_X1_21 rfl rfl rfl rfl rfl (Nat.le_of_ble_eq_true rfl) dX1_init_37 (fun H locs hW hS => ?_)
  refine mt_rvI S hr hk (fun b h => ?_) (hW.to ?_) hS (Nat.le_of_ble_eq_true rfl) (Nat.le_of_ble_eq_true rfl) dX1_init_40
  · simp [mt_ua, h.1, h.2.1, h.2.2.1, h.2.2.2]
  · funext b
    simp only [mt_up]
    by_cases h1 : b = k
    · subst h1; simp [mt_ua]
    · by_cases h2 : b = k + 10
      · subst h2; simp
      · by_cases h3 : b = k + 20
        · subst h3; simp
        · by_cases h4 : b = k + 30
          · subst h4; simp
          · by_cases h5 : b = k + 40
            · subst h5; simp
            · simp [h1, h2, h3, h4, h5]
set_option maxRecDepth 100000 in
set_option maxHeartbeats 4000000 in
theorem k_X2_init (l : Launch) (g : mt_G) (z : Nat) (w : mt_w) (ad : Nat → Nat) (k b : Nat) (x y v : Int32) (h0 : ad k = b) (hk0 : w k = some (.inr (4, [.int 0, .int 0, .int 0, .int 0, .int 0]))) : mt_KI l g z yX2_init cX2_init 4 1 20 0 0 [.ref b, .int x, .int y, .int v] w ad (fun _ => mt_up w k (.inr (4, [.int y, .int v, .int x, .int 1, .int 0]))) (fun a => a = ad) := by
  refine mt_ofWI (by decide +kernel) (Nat.le_of_ble_eq_true rfl) ?_
  intro p e s m args below meth c S hr hk hnm hC hW hS ls hl
  have hx := S.1
  have hb := S.2.1
  have hl : lv_has ls 4 [(0, .ref b), (1, .int x), (2, .int y), (3, .int v)] := hl
  refine lv_aload_n hx hb dX2_init_0 rfl (lv_at hl 0 rfl) ?_
  refine mt_objInit S mw_ml_X2_3 mw_im_java_lang_Object__init___V mw_co_java_lang_Object__init___V hl.1 (Nat.le_of_ble_eq_true rfl) dX2_init_1 ⟨(Nat.le_of_ble_eq_true rfl), (Nat.le_of_ble_eq_true rfl)⟩ ?_
  refine lv_aload_n hx hb dX2_init_4 rfl (lv_at hl 0 rfl) ?_
  refine lv_iload_n hx hb dX2_init_5 rfl (lv_at hl 1 rfl) ?_
  refine mt_put2 S iw_X2 tyX2 tyX2_ok nmX2 hC hW hS (k) (by simp [mt_ua, h0]) hk0 rfl 2 (by decide) mw_fl_X2_9 rfl rfl rfl rfl (Nat.le_of_ble_eq_true rfl) dX2_init_6 (fun H locs hW hS => ?_)
  refine lv_aload_n hx hb dX2_init_9 rfl (lv_at hl 0 rfl) ?_
  refine lv_iload_n hx hb dX2_init_10 rfl (lv_at hl 2 rfl) ?_
  refine mt_putF2 S iw_X2 tyX2 tyX2_ok nmX2 hC hW hS hnm (k) (by simp [mt_ua, h0]) mt_up_eq rfl 0 (by decide) mw_fl_X2_15 rfl rfl rfl rfl rfl (Nat.le_of_ble_eq_true rfl) dX2_init_11 (fun H locs hW hS => ?_)
  refine lv_aload_n hx hb dX2_init_14 rfl (lv_at hl 0 rfl) ?_
  refine lv_iload_n hx hb dX2_init_15 rfl (lv_at hl 3 rfl) ?_
  refine mt_putF2 S iw_X2 tyX2 tyX2_ok nmX2 hC hW hS hnm (k) (by simp [mt_ua, h0]) mt_up_eq rfl 1 (by decide) mw_fl_X2_18 rfl rfl rfl rfl rfl (Nat.le_of_ble_eq_true rfl) dX2_init_16 (fun H locs hW hS => ?_)
  refine lv_aload_n hx hb dX2_init_19 rfl (lv_at hl 0 rfl) ?_
  refine lv_iconst (v := 1) hx hb dX2_init_20 (by decide) ?_
  refine mt_put2 S iw_X2 tyX2 tyX2_ok nmX2 hC hW hS (k) (by simp [mt_ua, h0]) mt_up_eq rfl 3 (by decide) mw_fl_X2_21 rfl rfl rfl rfl (Nat.le_of_ble_eq_true rfl) dX2_init_21 (fun H locs hW hS => ?_)
  exact mt_rvI S hr hk rfl (hW.to (by simp only [mt_up2]; rfl)) hS (Nat.le_of_ble_eq_true rfl) (Nat.le_of_ble_eq_true rfl) dX2_init_24
set_option maxRecDepth 100000 in
set_option maxHeartbeats 4000000 in
theorem k_X0_init (l : Launch) (g : mt_G) (z : Nat) (w : mt_w) (ad : Nat → Nat) (k b : Nat) (x : Int32) (hx01 : x = 0 ∨ x = 1) (h0 : ad k = b) (hk0 : w k = some (.inr (2, [.int 0, .null]))) (hn1 : w (k + 10) = none) : mt_KI l g z yX0_init cX0_init 2 1 20 1 2046 [.ref b, .int x] w ad (fun a => mt_up (mt_up w (k + 10) (.inl (g.2 0, c_bn x, .inl (fun _ => 0)))) k (.inr (2, [.int x, .ref (a (k + 10))]))) (fun a => ∀ b, b ≠ k + 10 → a b = ad b) := by
  refine mt_ofWI (by decide +kernel) (Nat.le_of_ble_eq_true rfl) ?_
  intro p e s m args below meth c S hr hk hnm hC hW hS ls hl
  have hx := S.1
  have hb := S.2.1
  have hl : lv_has ls 2 [(0, .ref b), (1, .int x)] := hl
  have hbn : narrow .boolean (.int x) = .int x := by rcases hx01 with h | h <;> rw [h] <;> rfl
  have hbf : fits .boolean (.int x) = true := by rcases hx01 with h | h <;> rw [h] <;> rfl
  refine lv_aload_n hx hb dX0_init_0 rfl (lv_at hl 0 rfl) ?_
  refine mt_objInit S mw_ml_X0_3 mw_im_java_lang_Object__init___V mw_co_java_lang_Object__init___V hl.1 (Nat.le_of_ble_eq_true rfl) dX0_init_1 ⟨(Nat.le_of_ble_eq_true rfl), (Nat.le_of_ble_eq_true rfl)⟩ ?_
  refine lv_aload_n hx hb dX0_init_4 rfl (lv_at hl 0 rfl) ?_
  refine lv_iload_n hx hb dX0_init_5 rfl (lv_at hl 1 rfl) ?_
  refine mt_putF2 S iw_X0 tyX0 tyX0_ok nmX0 hC hW hS hnm (k) (by simp [mt_ua, h0]) hk0 rfl 0 (by decide) mw_fl_X0_9 rfl rfl rfl hbn hbf (Nat.le_of_ble_eq_true rfl) dX0_init_6 (fun H locs hW hS => ?_)
  refine lv_aload_n hx hb dX0_init_9 rfl (lv_at hl 0 rfl) ?_
  refine lv_iload_n hx hb dX0_init_10 rfl (lv_at hl 1 rfl) ?_
  refine lv_if_eq (tgt := 20) hx hb dX0_init_11 (by decide) (fun c_1 => ?_) (fun c_1 => ?_)
  · have hcb : c_bn x = 2046 := by rw [c_bn, if_pos c_1]
    refine lv_sipush (v := 2046) hx hb dX0_init_20 (by decide) ?_
    refine mt_newa (a0 := (2046, .inl (fun _ => 0))) (N' := 2046) S hC hW hS 0 (ty := .int) rfl mw_ac_int rfl (fun C h => by cases h) (k + 10) (by simp [mt_up, hn1]) (fun _ => rfl) (by decide) (by decide) (by decide) (Nat.le_of_ble_eq_true rfl) (Nat.le_of_ble_eq_true rfl) dX0_init_23 (fun q1 H hW hS => ?_)
    refine mt_putF2 S iw_X0 tyX0 tyX0_ok nmX0 hC hW hS hnm (k) (by simp [mt_ua, h0]) ((mt_up_ne (by omega)).trans mt_up_eq) rfl 1 (by decide) mw_fl_X0_15 rfl rfl rfl rfl rfl (Nat.le_of_ble_eq_true rfl) dX0_init_25 (fun H locs hW hS => ?_)
    refine mt_rvI S hr hk (fun b h => ?_) (hW.to ?_) hS (Nat.le_of_ble_eq_true rfl) (Nat.le_of_ble_eq_true rfl) dX0_init_28
    · simp [mt_ua, h]
    · funext b
      simp only [mt_up]
      by_cases h1 : b = k
      · subst h1; simp [mt_ua]
      · by_cases h2 : b = k + 10
        · subst h2; simp [hcb]
        · simp [h1, h2]
  · have hcb : c_bn x = 341 := by rw [c_bn, if_neg c_1]
    refine lv_sipush (v := 341) hx hb dX0_init_14 (by decide) ?_
    refine lv_goto (tgt := 23) hx hb dX0_init_17 (by decide) ?_
    refine mt_newa (a0 := (341, .inl (fun _ => 0))) (N' := 341) S hC hW hS 0 (ty := .int) rfl mw_ac_int rfl (fun C h => by cases h) (k + 10) (by simp [mt_up, hn1]) (fun _ => rfl) (by decide) (by decide) (by decide) (Nat.le_of_ble_eq_true rfl) (Nat.le_of_ble_eq_true rfl) dX0_init_23 (fun q1 H hW hS => ?_)
    refine mt_putF2 S iw_X0 tyX0 tyX0_ok nmX0 hC hW hS hnm (k) (by simp [mt_ua, h0]) ((mt_up_ne (by omega)).trans mt_up_eq) rfl 1 (by decide) mw_fl_X0_15 rfl rfl rfl rfl rfl (Nat.le_of_ble_eq_true rfl) dX0_init_25 (fun H locs hW hS => ?_)
    refine mt_rvI S hr hk (fun b h => ?_) (hW.to ?_) hS (Nat.le_of_ble_eq_true rfl) (Nat.le_of_ble_eq_true rfl) dX0_init_28
    · simp [mt_ua, h]
    · funext b
      simp only [mt_up]
      by_cases h1 : b = k
      · subst h1; simp [mt_ua]
      · by_cases h2 : b = k + 10
        · subst h2; simp [hcb]
        · simp [h1, h2]
def c_wX3 (g : mt_G) (w : mt_w) (ad : Nat → Nat) (f5 f6 : Nat → Int32) : mt_w := fun b => if b = 0 then some (.inr (5, mt_tb ad 0 0 0 (fun _ => 0))) else if b = 1 then some (.inl (g.2 2, 6, .inr (.inr (.inr (.inr (fun _ => none)))))) else if b = 2 then some (.inl (g.2 3, 8, .inr (.inr (.inr (.inr (fun _ => none)))))) else if b = 3 then some (.inl (g.2 4, 6, .inr (.inr (.inr (.inr (fun _ => none)))))) else if b = 4 then some (.inl (g.2 0, 4, .inl (fun _ => 0))) else if b = 5 then some (.inl (g.2 0, 4, .inl f5)) else if b = 6 then some (.inl (g.2 0, 341, .inl f6)) else if b = 7 then some (.inl (g.2 0, 341, .inl (fun _ => 0))) else w b
theorem c_wX3_5 {g : mt_G} {w : mt_w} {ad : Nat → Nat} {f5 f6 f : Nat → Int32} : mt_up (c_wX3 g w ad f5 f6) 5 (.inl (g.2 0, 4, .inl f)) = c_wX3 g w ad f f6 := by
  funext b
  by_cases h : b = 5
  · subst h; rfl
  · rw [mt_up_ne h]; unfold c_wX3; simp only [if_neg h]
theorem c_wX3_6 {g : mt_G} {w : mt_w} {ad : Nat → Nat} {f5 f6 f : Nat → Int32} : mt_up (c_wX3 g w ad f5 f6) 6 (.inl (g.2 0, 341, .inl f)) = c_wX3 g w ad f5 f := by
  funext b
  by_cases h : b = 6
  · subst h; rfl
  · rw [mt_up_ne h]; unfold c_wX3; simp only [if_neg h]
set_option maxRecDepth 100000 in
set_option maxHeartbeats 4000000 in
theorem k_X3_init (l : Launch) (g : mt_G) (z : Nat) (w : mt_w) (ad : Nat → Nat) (b : Nat) (h0 : ad 0 = b) (hn0 : w 1 = none) (hn1 : w 2 = none) (hn2 : w 3 = none) (hn3 : w 4 = none) (hn4 : w 5 = none) (hn5 : w 6 = none) (hn6 : w 7 = none) : mt_KI l g z yX3_init cX3_init 2 1 20 7 710 [.ref b] (mt_up w 0 (.inr (5, [.null, .null, .null, .null, .null, .null, .null, .int 0, .int 0, .int 0, .int 0]))) ad (fun a => c_wX3 g w a (fun j => if j < 4 then 20000 else 0) (fun j => if j < 341 then (-1) else 0)) (fun a => ∀ b, b ≠ 1 ∧ b ≠ 2 ∧ b ≠ 3 ∧ b ≠ 4 ∧ b ≠ 5 ∧ b ≠ 6 ∧ b ≠ 7 → a b = ad b) := by
  refine mt_ofWI (by decide +kernel) (Nat.le_of_ble_eq_true rfl) ?_
  intro p e s m args below meth c S hr hk hnm hC hW hS ls hl
  have hx := S.1
  have hb := S.2.1
  have hl : lv_has ls 2 [(0, .ref b)] := hl
  have hk0 : mt_up w 0 (.inr (5, [.null, .null, .null, .null, .null, .null, .null, .int 0, .int 0, .int 0, .int 0])) 0 = some (.inr (5, [.null, .null, .null, .null, .null, .null, .null, .int 0, .int 0, .int 0, .int 0])) := rfl
  refine lv_aload_n hx hb dX3_init_0 rfl (lv_at hl 0 rfl) ?_
  refine mt_objInit S mw_ml_X3_1 mw_im_java_lang_Object__init___V mw_co_java_lang_Object__init___V hl.1 (Nat.le_of_ble_eq_true rfl) dX3_init_1 ⟨(Nat.le_of_ble_eq_true rfl), (Nat.le_of_ble_eq_true rfl)⟩ ?_
  refine lv_aload_n hx hb dX3_init_4 rfl (lv_at hl 0 rfl) ?_
  refine lv_bipush (v := 6) hx hb dX3_init_5 (by decide) ?_
  refine mt_newq2 (N' := 6) S hC hW hS 2 mw_cl_X3_9 (List.mem_of_getElem? (i := 0) rfl) rfl (1) hn0 (by decide) (by decide) (by decide) (Nat.le_of_ble_eq_true rfl) (Nat.le_of_ble_eq_true rfl) dX3_init_7 (fun q0 H hW hS => ?_)
  refine mt_putF2 S iw_X3 tyX3 tyX3_ok nmX3 hC hW hS hnm (0) h0 rfl rfl 0 (by decide) mw_fl_X3_11 rfl rfl rfl rfl rfl (Nat.le_of_ble_eq_true rfl) dX3_init_10 (fun H locs hW hS => ?_)
  refine lv_aload_n hx hb dX3_init_13 rfl (lv_at hl 0 rfl) ?_
  refine lv_bipush (v := 8) hx hb dX3_init_14 (by decide) ?_
  refine mt_newq2 (N' := 8) S hC hW hS 3 mw_cl_X3_15 (List.mem_of_getElem? (i := 1) rfl) rfl (2) hn1 (by decide) (by decide) (by decide) (Nat.le_of_ble_eq_true rfl) (Nat.le_of_ble_eq_true rfl) dX3_init_16 (fun q1 H hW hS => ?_)
  refine mt_putF2 S iw_X3 tyX3 tyX3_ok nmX3 hC hW hS hnm (0) h0 rfl rfl 1 (by decide) mw_fl_X3_17 rfl rfl rfl rfl rfl (Nat.le_of_ble_eq_true rfl) dX3_init_19 (fun H locs hW hS => ?_)
  refine lv_aload_n hx hb dX3_init_22 rfl (lv_at hl 0 rfl) ?_
  refine lv_bipush (v := 6) hx hb dX3_init_23 (by decide) ?_
  refine mt_newq2 (N' := 6) S hC hW hS 4 mw_cl_X3_21 (List.mem_of_getElem? (i := 2) rfl) rfl (3) hn2 (by decide) (by decide) (by decide) (Nat.le_of_ble_eq_true rfl) (Nat.le_of_ble_eq_true rfl) dX3_init_25 (fun q2 H hW hS => ?_)
  refine mt_putF2 S iw_X3 tyX3 tyX3_ok nmX3 hC hW hS hnm (0) h0 rfl rfl 2 (by decide) mw_fl_X3_23 rfl rfl rfl rfl rfl (Nat.le_of_ble_eq_true rfl) dX3_init_28 (fun H locs hW hS => ?_)
  refine lv_aload_n hx hb dX3_init_31 rfl (lv_at hl 0 rfl) ?_
  refine lv_iconst (v := 4) hx hb dX3_init_32 (by decide) ?_
  refine mt_newa (a0 := (4, .inl (fun _ => 0))) (N' := 4) S hC hW hS 0 (ty := .int) rfl mw_ac_int rfl (fun C h => by cases h) (4) hn3 (fun _ => rfl) (by decide) (by decide) (by decide) (Nat.le_of_ble_eq_true rfl) (Nat.le_of_ble_eq_true rfl) dX3_init_33 (fun q3 H hW hS => ?_)
  refine mt_putF2 S iw_X3 tyX3 tyX3_ok nmX3 hC hW hS hnm (0) h0 rfl rfl 3 (by decide) mw_fl_X3_27 rfl rfl rfl rfl rfl (Nat.le_of_ble_eq_true rfl) dX3_init_35 (fun H locs hW hS => ?_)
  refine lv_aload_n hx hb dX3_init_38 rfl (lv_at hl 0 rfl) ?_
  refine lv_iconst (v := 4) hx hb dX3_init_39 (by decide) ?_
  refine mt_newa (a0 := (4, .inl (fun _ => 0))) (N' := 4) S hC hW hS 0 (ty := .int) rfl mw_ac_int rfl (fun C h => by cases h) (5) hn4 (fun _ => rfl) (by decide) (by decide) (by decide) (Nat.le_of_ble_eq_true rfl) (Nat.le_of_ble_eq_true rfl) dX3_init_40 (fun q4 H hW hS => ?_)
  refine mt_putF2 S iw_X3 tyX3 tyX3_ok nmX3 hC hW hS hnm (0) h0 rfl rfl 4 (by decide) mw_fl_X3_31 rfl rfl rfl rfl rfl (Nat.le_of_ble_eq_true rfl) dX3_init_42 (fun H locs hW hS => ?_)
  refine lv_aload_n hx hb dX3_init_45 rfl (lv_at hl 0 rfl) ?_
  refine lv_sipush (v := 341) hx hb dX3_init_46 (by decide) ?_
  refine mt_newa (a0 := (341, .inl (fun _ => 0))) (N' := 341) S hC hW hS 0 (ty := .int) rfl mw_ac_int rfl (fun C h => by cases h) (6) hn5 (fun _ => rfl) (by decide) (by decide) (by decide) (Nat.le_of_ble_eq_true rfl) (Nat.le_of_ble_eq_true rfl) dX3_init_49 (fun q5 H hW hS => ?_)
  refine mt_putF2 S iw_X3 tyX3 tyX3_ok nmX3 hC hW hS hnm (0) h0 rfl rfl 5 (by decide) mw_fl_X3_34 rfl rfl rfl rfl rfl (Nat.le_of_ble_eq_true rfl) dX3_init_51 (fun H locs hW hS => ?_)
  refine lv_aload_n hx hb dX3_init_54 rfl (lv_at hl 0 rfl) ?_
  refine lv_sipush (v := 341) hx hb dX3_init_55 (by decide) ?_
  refine mt_newa (a0 := (341, .inl (fun _ => 0))) (N' := 341) S hC hW hS 0 (ty := .int) rfl mw_ac_int rfl (fun C h => by cases h) (7) hn6 (fun _ => rfl) (by decide) (by decide) (by decide) (Nat.le_of_ble_eq_true rfl) (Nat.le_of_ble_eq_true rfl) dX3_init_58 (fun q6 H hW hS => ?_)
  refine mt_putF2 S iw_X3 tyX3 tyX3_ok nmX3 hC hW hS hnm (0) h0 rfl rfl 6 (by decide) mw_fl_X3_37 rfl rfl rfl rfl rfl (Nat.le_of_ble_eq_true rfl) dX3_init_60 (fun H locs hW hS => ?_)
  obtain ⟨ad1, hA, hCC, hW⟩ : ∃ ad1 : Nat → Nat, ad1 0 = b ∧ (∀ b, b ≠ 1 ∧ b ≠ 2 ∧ b ≠ 3 ∧ b ≠ 4 ∧ b ≠ 5 ∧ b ≠ 6 ∧ b ≠ 7 → ad1 b = ad b) ∧ mt_W g z (c_wX3 g w ad1 (fun _ => 0) (fun _ => 0)) ad1 H := by
    refine ⟨(mt_ua (mt_ua (mt_ua (mt_ua (mt_ua (mt_ua (mt_ua ad 1 q0) 2 q1) 3 q2) 4 q3) 5 q4) 6 q5) 7 q6), h0, fun b h => ?_, hW.to ?_⟩
    · obtain ⟨e0, e1, e2, e3, e4, e5, e6⟩ := h; simp [mt_ua, e0, e1, e2, e3, e4, e5, e6]
    · funext b
      by_cases e0 : b = 0
      · subst e0; rfl
      by_cases e1 : b = 1
      · subst e1; rfl
      by_cases e2 : b = 2
      · subst e2; rfl
      by_cases e3 : b = 3
      · subst e3; rfl
      by_cases e4 : b = 4
      · subst e4; rfl
      by_cases e5 : b = 5
      · subst e5; rfl
      by_cases e6 : b = 6
      · subst e6; rfl
      by_cases e7 : b = 7
      · subst e7; rfl
      unfold c_wX3; simp only [mt_up, if_neg e0, if_neg e1, if_neg e2, if_neg e3, if_neg e4, if_neg e5, if_neg e6, if_neg e7]
  refine lv_iconst (v := 0) hx hb dX3_init_63 (by decide) ?_
  refine lv_istore_n (lv' := [(1, .int 0), (0, .ref b)]) hx hb dX3_init_64 rfl hl (by decide) rfl (fun ls hl => ?_)
  have hl : lv_has ls 2 [(1, .int (nI 0)), (0, .ref b)] := hl
  have hW : mt_W g z (c_wX3 g w ad1 (fun j => if j < 0 then 20000 else 0) (fun _ => 0)) ad1 H := hW.to (by congr 1)
  refine lp_up 4 (fun k => c_wX3 g w ad1 (fun j => if j < k then 20000 else 0) (fun _ => 0)) (fun k => [(1, .int (nI k)), (0, .ref b)]) (fun _ => True) 0 (by omega) trivial hW hS hl (fun H locs ls _ hW hS hl => ?_) (fun k H locs ls _ hkn _ hW hS hl ih => ?_)
  rotate_left
  · have hl : lv_has ls 2 [(1, .int (nI k)), (0, .ref b)] := hl
    have hW : mt_W g z (c_wX3 g w ad1 (fun j => if j < k then 20000 else 0) (fun _ => 0)) ad1 H := hW
    refine lv_iload_n hx hb dX3_init_65 rfl (lv_at hl 0 rfl) ?_
    refine lv_iconst (v := 4) hx hb dX3_init_66 (by decide) ?_
    refine lv_icmp_ge (tgt := 85) hx hb dX3_init_67 (by decide) (fun c_1 => absurd c_1 (nI_ge (a := k) (b := 4) hkn (by decide))) (fun c_1 => ?_)
    refine lv_aload_n hx hb dX3_init_70 rfl (lv_at hl 1 rfl) ?_
    refine mt_get2 S iw_X3 hC hW 0 hA rfl rfl 4 (by decide) mw_fl_X3_31 rfl rfl dX3_init_71 ?_
    refine lv_iload_n hx hb dX3_init_74 rfl (lv_at hl 0 rfl) ?_
    refine lv_sipush (v := 20000) hx hb dX3_init_75 (by decide) ?_
    refine mt_iast S hC hW hS (k := 5) rfl (vp_in_nI hkn (by decide)) dX3_init_78 (fun H locs hW hS => ?_)
    have hW : mt_W g z (c_wX3 g w ad1 (fun j => if j < (k + 1) then 20000 else 0) (fun _ => 0)) ad1 H := hW.to (by rw [c_fill hkn (by decide), c_wX3_5])
    refine lv_iinc (v := nI (k + 1)) (lv' := [(1, .int (nI (k + 1))), (0, .ref b)]) hx hb dX3_init_79 hl (k := 0) rfl (nI_1 _) (by decide) rfl (fun ls hl => ?_)
    refine lv_goto (tgt := 65) hx hb dX3_init_82 (by decide) ?_
    exact ih _ _ _ trivial hW hS hl
  have hl : lv_has ls 2 [(1, .int (nI 4)), (0, .ref b)] := hl
  have hW : mt_W g z (c_wX3 g w ad1 (fun j => if j < 4 then 20000 else 0) (fun _ => 0)) ad1 H := hW
  refine lv_iload_n hx hb dX3_init_65 rfl (lv_at hl 0 rfl) ?_
  refine lv_iconst (v := 4) hx hb dX3_init_66 (by decide) ?_
  refine lv_icmp_ge (tgt := 85) hx hb dX3_init_67 (by decide) (fun c_1 => ?_) (fun c_1 => absurd (show (4 : Int32) ≤ nI 4 by decide) c_1)
  have hl : lv_has ls 2 [(0, .ref b)] := lv_sub hl [1] rfl
  refine lv_iconst (v := 0) hx hb dX3_init_85 (by decide) ?_
  refine lv_istore_n (lv' := [(1, .int 0), (0, .ref b)]) hx hb dX3_init_86 rfl hl (by decide) rfl (fun ls hl => ?_)
  have hl : lv_has ls 2 [(1, .int (nI 0)), (0, .ref b)] := hl
  have hW : mt_W g z (c_wX3 g w ad1 (fun j => if j < 4 then 20000 else 0) (fun j => if j < 0 then (-1) else 0)) ad1 H := hW.to (by congr 1)
  refine lp_up 341 (fun k => c_wX3 g w ad1 (fun j => if j < 4 then 20000 else 0) (fun j => if j < k then (-1) else 0)) (fun k => [(1, .int (nI k)), (0, .ref b)]) (fun _ => True) 0 (by omega) trivial hW hS hl (fun H locs ls _ hW hS hl => ?_) (fun k H locs ls _ hkn _ hW hS hl ih => ?_)
  rotate_left
  · have hl : lv_has ls 2 [(1, .int (nI k)), (0, .ref b)] := hl
    have hW : mt_W g z (c_wX3 g w ad1 (fun j => if j < 4 then 20000 else 0) (fun j => if j < k then (-1) else 0)) ad1 H := hW
    refine lv_iload_n hx hb dX3_init_87 rfl (lv_at hl 0 rfl) ?_
    refine lv_sipush (v := 341) hx hb dX3_init_88 (by decide) ?_
    refine lv_icmp_ge (tgt := 107) hx hb dX3_init_91 (by decide) (fun c_1 => absurd c_1 (nI_ge (a := k) (b := 341) hkn (by decide))) (fun c_1 => ?_)
    refine lv_aload_n hx hb dX3_init_94 rfl (lv_at hl 1 rfl) ?_
    refine mt_get2 S iw_X3 hC hW 0 hA rfl rfl 5 (by decide) mw_fl_X3_34 rfl rfl dX3_init_95 ?_
    refine lv_iload_n hx hb dX3_init_98 rfl (lv_at hl 0 rfl) ?_
    refine lv_iconst (v := (-1)) hx hb dX3_init_99 (by decide) ?_
    refine mt_iast S hC hW hS (k := 6) rfl (vp_in_nI hkn (by decide)) dX3_init_100 (fun H locs hW hS => ?_)
    have hW : mt_W g z (c_wX3 g w ad1 (fun j => if j < 4 then 20000 else 0) (fun j => if j < (k + 1) then (-1) else 0)) ad1 H := hW.to (by rw [c_fill hkn (by decide), c_wX3_6])
    refine lv_iinc (v := nI (k + 1)) (lv' := [(1, .int (nI (k + 1))), (0, .ref b)]) hx hb dX3_init_101 hl (k := 0) rfl (nI_1 _) (by decide) rfl (fun ls hl => ?_)
    refine lv_goto (tgt := 87) hx hb dX3_init_104 (by decide) ?_
    exact ih _ _ _ trivial hW hS hl
  have hl : lv_has ls 2 [(1, .int (nI 341)), (0, .ref b)] := hl
  have hW : mt_W g z (c_wX3 g w ad1 (fun j => if j < 4 then 20000 else 0) (fun j => if j < 341 then (-1) else 0)) ad1 H := hW
  refine lv_iload_n hx hb dX3_init_87 rfl (lv_at hl 0 rfl) ?_
  refine lv_sipush (v := 341) hx hb dX3_init_88 (by decide) ?_
  refine lv_icmp_ge (tgt := 107) hx hb dX3_init_91 (by decide) (fun c_1 => ?_) (fun c_1 => absurd (show (341 : Int32) ≤ nI 341 by decide) c_1)
  have hl : lv_has ls 2 [(0, .ref b)] := lv_sub hl [1] rfl
  exact mt_rvI S hr hk hCC hW hS (Nat.le_of_ble_eq_true rfl) (Nat.le_of_ble_eq_true rfl) dX3_init_107
def c_wX4 (g : mt_G) (w : mt_w) (ad : Nat → Nat) (f211 : Nat → Int32) : mt_w := fun b => if b = 200 then some (.inr (6, mt_mo ad (fun _ => 0))) else if b = 201 then some (.inl (g.2 0, 2046, .inl (fun _ => 0))) else if b = 202 then some (.inl (g.2 0, 2046, .inl (fun _ => 0))) else if b = 203 then some (.inl (g.2 0, 2046, .inl (fun _ => 0))) else if b = 205 then some (.inl (g.2 0, 8, .inl (fun _ => 0))) else if b = 206 then some (.inl (g.2 0, 8, .inl (fun _ => 0))) else if b = 207 then some (.inl (g.2 0, 8, .inl (fun _ => 0))) else if b = 208 then some (.inl (g.2 1, 8, .inl (fun _ => 0))) else if b = 209 then some (.inl (g.2 1, 8, .inl (fun _ => 0))) else if b = 211 then some (.inl (g.2 0, 4, .inl f211)) else if b = 213 then some (.inl (g.2 0, 12276, .inl (fun _ => 0))) else if b = 214 then some (.inl (g.2 1, 6, .inl (fun _ => 0))) else w b
theorem c_wX4_211 {g : mt_G} {w : mt_w} {ad : Nat → Nat} {f211 f : Nat → Int32} : mt_up (c_wX4 g w ad f211) 211 (.inl (g.2 0, 4, .inl f)) = c_wX4 g w ad f := by
  funext b
  by_cases h : b = 211
  · subst h; rfl
  · rw [mt_up_ne h]; unfold c_wX4; simp only [if_neg h]
set_option maxRecDepth 100000 in
set_option maxHeartbeats 4000000 in
theorem k_X4_init (l : Launch) (g : mt_G) (z : Nat) (w : mt_w) (ad : Nat → Nat) (b : Nat) (h0 : ad 200 = b) (hn0 : w 201 = none) (hn1 : w 202 = none) (hn2 : w 203 = none) (hn4 : w 205 = none) (hn5 : w 206 = none) (hn6 : w 207 = none) (hn7 : w 208 = none) (hn8 : w 209 = none) (hn10 : w 211 = none) (hn12 : w 213 = none) (hn13 : w 214 = none) : mt_KI l g z yX4_init cX4_init 2 1 20 11 18464 [.ref b] (mt_up w 200 (.inr (6, [.null, .null, .null, .int 0, .null, .null, .null, .null, .null, .int 0, .null, .int 0, .null, .null, .int 0, .int 0]))) ad (fun a => c_wX4 g w a (fun j => if j < 4 then 20000 else 0)) (fun a => ∀ b, b ≠ 201 ∧ b ≠ 202 ∧ b ≠ 203 ∧ b ≠ 205 ∧ b ≠ 206 ∧ b ≠ 207 ∧ b ≠ 208 ∧ b ≠ 209 ∧ b ≠ 211 ∧ b ≠ 213 ∧ b ≠ 214 → a b = ad b) := by
  refine mt_ofWI (by decide +kernel) (Nat.le_of_ble_eq_true rfl) ?_
  intro p e s m args below meth c S hr hk hnm hC hW hS ls hl
  have hx := S.1
  have hb := S.2.1
  have hl : lv_has ls 2 [(0, .ref b)] := hl
  have hk0 : mt_up w 200 (.inr (6, [.null, .null, .null, .int 0, .null, .null, .null, .null, .null, .int 0, .null, .int 0, .null, .null, .int 0, .int 0])) 200 = some (.inr (6, [.null, .null, .null, .int 0, .null, .null, .null, .null, .null, .int 0, .null, .int 0, .null, .null, .int 0, .int 0])) := rfl
  refine lv_aload_n hx hb dX4_init_0 rfl (lv_at hl 0 rfl) ?_
  refine mt_objInit S mw_ml_X4_1 mw_im_java_lang_Object__init___V mw_co_java_lang_Object__init___V hl.1 (Nat.le_of_ble_eq_true rfl) dX4_init_1 ⟨(Nat.le_of_ble_eq_true rfl), (Nat.le_of_ble_eq_true rfl)⟩ ?_
  refine lv_aload_n hx hb dX4_init_4 rfl (lv_at hl 0 rfl) ?_
  refine lv_sipush (v := 2046) hx hb dX4_init_5 (by decide) ?_
  refine mt_newa (a0 := (2046, .inl (fun _ => 0))) (N' := 2046) S hC hW hS 0 (ty := .int) rfl mw_ac_int rfl (fun C h => by cases h) (201) hn0 (fun _ => rfl) (by decide) (by decide) (by decide) (Nat.le_of_ble_eq_true rfl) (Nat.le_of_ble_eq_true rfl) dX4_init_8 (fun q0 H hW hS => ?_)
  refine mt_putF2 S iw_X4 tyX4 tyX4_ok nmX4 hC hW hS hnm (200) h0 rfl rfl 0 (by decide) mw_fl_X4_7 rfl rfl rfl rfl rfl (Nat.le_of_ble_eq_true rfl) dX4_init_10 (fun H locs hW hS => ?_)
  refine lv_aload_n hx hb dX4_init_13 rfl (lv_at hl 0 rfl) ?_
  refine lv_sipush (v := 2046) hx hb dX4_init_14 (by decide) ?_
  refine mt_newa (a0 := (2046, .inl (fun _ => 0))) (N' := 2046) S hC hW hS 0 (ty := .int) rfl mw_ac_int rfl (fun C h => by cases h) (202) hn1 (fun _ => rfl) (by decide) (by decide) (by decide) (Nat.le_of_ble_eq_true rfl) (Nat.le_of_ble_eq_true rfl) dX4_init_17 (fun q1 H hW hS => ?_)
  refine mt_putF2 S iw_X4 tyX4 tyX4_ok nmX4 hC hW hS hnm (200) h0 rfl rfl 1 (by decide) mw_fl_X4_13 rfl rfl rfl rfl rfl (Nat.le_of_ble_eq_true rfl) dX4_init_19 (fun H locs hW hS => ?_)
  refine lv_aload_n hx hb dX4_init_22 rfl (lv_at hl 0 rfl) ?_
  refine lv_sipush (v := 2046) hx hb dX4_init_23 (by decide) ?_
  refine mt_newa (a0 := (2046, .inl (fun _ => 0))) (N' := 2046) S hC hW hS 0 (ty := .int) rfl mw_ac_int rfl (fun C h => by cases h) (203) hn2 (fun _ => rfl) (by decide) (by decide) (by decide) (Nat.le_of_ble_eq_true rfl) (Nat.le_of_ble_eq_true rfl) dX4_init_26 (fun q2 H hW hS => ?_)
  refine mt_putF2 S iw_X4 tyX4 tyX4_ok nmX4 hC hW hS hnm (200) h0 rfl rfl 2 (by decide) mw_fl_X4_16 rfl rfl rfl rfl rfl (Nat.le_of_ble_eq_true rfl) dX4_init_28 (fun H locs hW hS => ?_)
  refine lv_aload_n hx hb dX4_init_31 rfl (lv_at hl 0 rfl) ?_
  refine lv_bipush (v := 8) hx hb dX4_init_32 (by decide) ?_
  refine mt_newa (a0 := (8, .inl (fun _ => 0))) (N' := 8) S hC hW hS 0 (ty := .int) rfl mw_ac_int rfl (fun C h => by cases h) (205) hn4 (fun _ => rfl) (by decide) (by decide) (by decide) (Nat.le_of_ble_eq_true rfl) (Nat.le_of_ble_eq_true rfl) dX4_init_34 (fun q4 H hW hS => ?_)
  refine mt_putF2 S iw_X4 tyX4 tyX4_ok nmX4 hC hW hS hnm (200) h0 rfl rfl 4 (by decide) mw_fl_X4_19 rfl rfl rfl rfl rfl (Nat.le_of_ble_eq_true rfl) dX4_init_36 (fun H locs hW hS => ?_)
  refine lv_aload_n hx hb dX4_init_39 rfl (lv_at hl 0 rfl) ?_
  refine lv_bipush (v := 8) hx hb dX4_init_40 (by decide) ?_
  refine mt_newa (a0 := (8, .inl (fun _ => 0))) (N' := 8) S hC hW hS 0 (ty := .int) rfl mw_ac_int rfl (fun C h => by cases h) (206) hn5 (fun _ => rfl) (by decide) (by decide) (by decide) (Nat.le_of_ble_eq_true rfl) (Nat.le_of_ble_eq_true rfl) dX4_init_42 (fun q5 H hW hS => ?_)
  refine mt_putF2 S iw_X4 tyX4 tyX4_ok nmX4 hC hW hS hnm (200) h0 rfl rfl 5 (by decide) mw_fl_X4_22 rfl rfl rfl rfl rfl (Nat.le_of_ble_eq_true rfl) dX4_init_44 (fun H locs hW hS => ?_)
  refine lv_aload_n hx hb dX4_init_47 rfl (lv_at hl 0 rfl) ?_
  refine lv_bipush (v := 8) hx hb dX4_init_48 (by decide) ?_
  refine mt_newa (a0 := (8, .inl (fun _ => 0))) (N' := 8) S hC hW hS 0 (ty := .int) rfl mw_ac_int rfl (fun C h => by cases h) (207) hn6 (fun _ => rfl) (by decide) (by decide) (by decide) (Nat.le_of_ble_eq_true rfl) (Nat.le_of_ble_eq_true rfl) dX4_init_50 (fun q6 H hW hS => ?_)
  refine mt_putF2 S iw_X4 tyX4 tyX4_ok nmX4 hC hW hS hnm (200) h0 rfl rfl 6 (by decide) mw_fl_X4_25 rfl rfl rfl rfl rfl (Nat.le_of_ble_eq_true rfl) dX4_init_52 (fun H locs hW hS => ?_)
  refine lv_aload_n hx hb dX4_init_55 rfl (lv_at hl 0 rfl) ?_
  refine lv_bipush (v := 8) hx hb dX4_init_56 (by decide) ?_
  refine mt_newa (a0 := (8, .inl (fun _ => 0))) (N' := 8) S hC hW hS 1 (ty := .boolean) rfl mw_ac_boolean rfl (fun C h => by cases h) (208) hn7 (fun _ => rfl) (by decide) (by decide) (by decide) (Nat.le_of_ble_eq_true rfl) (Nat.le_of_ble_eq_true rfl) dX4_init_58 (fun q7 H hW hS => ?_)
  refine mt_putF2 S iw_X4 tyX4 tyX4_ok nmX4 hC hW hS hnm (200) h0 rfl rfl 7 (by decide) mw_fl_X4_28 rfl rfl rfl rfl rfl (Nat.le_of_ble_eq_true rfl) dX4_init_60 (fun H locs hW hS => ?_)
  refine lv_aload_n hx hb dX4_init_63 rfl (lv_at hl 0 rfl) ?_
  refine lv_bipush (v := 8) hx hb dX4_init_64 (by decide) ?_
  refine mt_newa (a0 := (8, .inl (fun _ => 0))) (N' := 8) S hC hW hS 1 (ty := .boolean) rfl mw_ac_boolean rfl (fun C h => by cases h) (209) hn8 (fun _ => rfl) (by decide) (by decide) (by decide) (Nat.le_of_ble_eq_true rfl) (Nat.le_of_ble_eq_true rfl) dX4_init_66 (fun q8 H hW hS => ?_)
  refine mt_putF2 S iw_X4 tyX4 tyX4_ok nmX4 hC hW hS hnm (200) h0 rfl rfl 8 (by decide) mw_fl_X4_32 rfl rfl rfl rfl rfl (Nat.le_of_ble_eq_true rfl) dX4_init_68 (fun H locs hW hS => ?_)
  refine lv_aload_n hx hb dX4_init_71 rfl (lv_at hl 0 rfl) ?_
  refine lv_iconst (v := 4) hx hb dX4_init_72 (by decide) ?_
  refine mt_newa (a0 := (4, .inl (fun _ => 0))) (N' := 4) S hC hW hS 0 (ty := .int) rfl mw_ac_int rfl (fun C h => by cases h) (211) hn10 (fun _ => rfl) (by decide) (by decide) (by decide) (Nat.le_of_ble_eq_true rfl) (Nat.le_of_ble_eq_true rfl) dX4_init_73 (fun q10 H hW hS => ?_)
  refine mt_putF2 S iw_X4 tyX4 tyX4_ok nmX4 hC hW hS hnm (200) h0 rfl rfl 10 (by decide) mw_fl_X4_35 rfl rfl rfl rfl rfl (Nat.le_of_ble_eq_true rfl) dX4_init_75 (fun H locs hW hS => ?_)
  refine lv_aload_n hx hb dX4_init_78 rfl (lv_at hl 0 rfl) ?_
  refine lv_sipush (v := 12276) hx hb dX4_init_79 (by decide) ?_
  refine mt_newa (a0 := (12276, .inl (fun _ => 0))) (N' := 12276) S hC hW hS 0 (ty := .int) rfl mw_ac_int rfl (fun C h => by cases h) (213) hn12 (fun _ => rfl) (by decide) (by decide) (by decide) (Nat.le_of_ble_eq_true rfl) (Nat.le_of_ble_eq_true rfl) dX4_init_82 (fun q12 H hW hS => ?_)
  refine mt_putF2 S iw_X4 tyX4 tyX4_ok nmX4 hC hW hS hnm (200) h0 rfl rfl 12 (by decide) mw_fl_X4_38 rfl rfl rfl rfl rfl (Nat.le_of_ble_eq_true rfl) dX4_init_84 (fun H locs hW hS => ?_)
  refine lv_aload_n hx hb dX4_init_87 rfl (lv_at hl 0 rfl) ?_
  refine lv_bipush (v := 6) hx hb dX4_init_88 (by decide) ?_
  refine mt_newa (a0 := (6, .inl (fun _ => 0))) (N' := 6) S hC hW hS 1 (ty := .boolean) rfl mw_ac_boolean rfl (fun C h => by cases h) (214) hn13 (fun _ => rfl) (by decide) (by decide) (by decide) (Nat.le_of_ble_eq_true rfl) (Nat.le_of_ble_eq_true rfl) dX4_init_90 (fun q13 H hW hS => ?_)
  refine mt_putF2 S iw_X4 tyX4 tyX4_ok nmX4 hC hW hS hnm (200) h0 rfl rfl 13 (by decide) mw_fl_X4_41 rfl rfl rfl rfl rfl (Nat.le_of_ble_eq_true rfl) dX4_init_92 (fun H locs hW hS => ?_)
  obtain ⟨ad1, hA, hCC, hW⟩ : ∃ ad1 : Nat → Nat, ad1 200 = b ∧ (∀ b, b ≠ 201 ∧ b ≠ 202 ∧ b ≠ 203 ∧ b ≠ 205 ∧ b ≠ 206 ∧ b ≠ 207 ∧ b ≠ 208 ∧ b ≠ 209 ∧ b ≠ 211 ∧ b ≠ 213 ∧ b ≠ 214 → ad1 b = ad b) ∧ mt_W g z (c_wX4 g w ad1 (fun _ => 0)) ad1 H := by
    refine ⟨(mt_ua (mt_ua (mt_ua (mt_ua (mt_ua (mt_ua (mt_ua (mt_ua (mt_ua (mt_ua (mt_ua ad 201 q0) 202 q1) 203 q2) 205 q4) 206 q5) 207 q6) 208 q7) 209 q8) 211 q10) 213 q12) 214 q13), h0, fun b h => ?_, hW.to ?_⟩
    · obtain ⟨e0, e1, e2, e4, e5, e6, e7, e8, e10, e12, e13⟩ := h; simp [mt_ua, e0, e1, e2, e4, e5, e6, e7, e8, e10, e12, e13]
    · funext b
      by_cases e200 : b = 200
      · subst e200; rfl
      by_cases e201 : b = 201
      · subst e201; rfl
      by_cases e202 : b = 202
      · subst e202; rfl
      by_cases e203 : b = 203
      · subst e203; rfl
      by_cases e205 : b = 205
      · subst e205; rfl
      by_cases e206 : b = 206
      · subst e206; rfl
      by_cases e207 : b = 207
      · subst e207; rfl
      by_cases e208 : b = 208
      · subst e208; rfl
      by_cases e209 : b = 209
      · subst e209; rfl
      by_cases e211 : b = 211
      · subst e211; rfl
      by_cases e213 : b = 213
      · subst e213; rfl
      by_cases e214 : b = 214
      · subst e214; rfl
      unfold c_wX4; simp only [mt_up, if_neg e200, if_neg e201, if_neg e202, if_neg e203, if_neg e205, if_neg e206, if_neg e207, if_neg e208, if_neg e209, if_neg e211, if_neg e213, if_neg e214]
  refine lv_iconst (v := 0) hx hb dX4_init_95 (by decide) ?_
  refine lv_istore_n (lv' := [(1, .int 0), (0, .ref b)]) hx hb dX4_init_96 rfl hl (by decide) rfl (fun ls hl => ?_)
  have hl : lv_has ls 2 [(1, .int (nI 0)), (0, .ref b)] := hl
  have hW : mt_W g z (c_wX4 g w ad1 (fun j => if j < 0 then 20000 else 0)) ad1 H := hW.to (by congr 1)
  refine lp_up 4 (fun k => c_wX4 g w ad1 (fun j => if j < k then 20000 else 0)) (fun k => [(1, .int (nI k)), (0, .ref b)]) (fun _ => True) 0 (by omega) trivial hW hS hl (fun H locs ls _ hW hS hl => ?_) (fun k H locs ls _ hkn _ hW hS hl ih => ?_)
  rotate_left
  · have hl : lv_has ls 2 [(1, .int (nI k)), (0, .ref b)] := hl
    have hW : mt_W g z (c_wX4 g w ad1 (fun j => if j < k then 20000 else 0)) ad1 H := hW
    refine lv_iload_n hx hb dX4_init_97 rfl (lv_at hl 0 rfl) ?_
    refine lv_iconst (v := 4) hx hb dX4_init_98 (by decide) ?_
    refine lv_icmp_ge (tgt := 117) hx hb dX4_init_99 (by decide) (fun c_1 => absurd c_1 (nI_ge (a := k) (b := 4) hkn (by decide))) (fun c_1 => ?_)
    refine lv_aload_n hx hb dX4_init_102 rfl (lv_at hl 1 rfl) ?_
    refine mt_get2 S iw_X4 hC hW 200 hA rfl rfl 10 (by decide) mw_fl_X4_35 rfl rfl dX4_init_103 ?_
    refine lv_iload_n hx hb dX4_init_106 rfl (lv_at hl 0 rfl) ?_
    refine lv_sipush (v := 20000) hx hb dX4_init_107 (by decide) ?_
    refine mt_iast S hC hW hS (k := 211) rfl (vp_in_nI hkn (by decide)) dX4_init_110 (fun H locs hW hS => ?_)
    have hW : mt_W g z (c_wX4 g w ad1 (fun j => if j < (k + 1) then 20000 else 0)) ad1 H := hW.to (by rw [c_fill hkn (by decide), c_wX4_211])
    refine lv_iinc (v := nI (k + 1)) (lv' := [(1, .int (nI (k + 1))), (0, .ref b)]) hx hb dX4_init_111 hl (k := 0) rfl (nI_1 _) (by decide) rfl (fun ls hl => ?_)
    refine lv_goto (tgt := 97) hx hb dX4_init_114 (by decide) ?_
    exact ih _ _ _ trivial hW hS hl
  have hl : lv_has ls 2 [(1, .int (nI 4)), (0, .ref b)] := hl
  have hW : mt_W g z (c_wX4 g w ad1 (fun j => if j < 4 then 20000 else 0)) ad1 H := hW
  refine lv_iload_n hx hb dX4_init_97 rfl (lv_at hl 0 rfl) ?_
  refine lv_iconst (v := 4) hx hb dX4_init_98 (by decide) ?_
  refine lv_icmp_ge (tgt := 117) hx hb dX4_init_99 (by decide) (fun c_1 => ?_) (fun c_1 => absurd (show (4 : Int32) ≤ nI 4 by decide) c_1)
  have hl : lv_has ls 2 [(0, .ref b)] := lv_sub hl [1] rfl
  exact mt_rvI S hr hk hCC hW hS (Nat.le_of_ble_eq_true rfl) (Nat.le_of_ble_eq_true rfl) dX4_init_117

def st_N : Nat → Nat → Int32 := fun _ _ => 0
def st_G : Nat → Nat → Int32 := fun k j => if k = 5 ∨ k = 211 then (if j < 4 then 20000 else 0) else if k = 6 then (if j < 341 then (-1) else 0) else 0
theorem st_MI : MI st_N st_G := ⟨by decide, by decide, by decide, by decide, by decide, by decide, fun k hk => absurd hk (Nat.not_lt_zero k), fun k => ⟨Or.inl rfl, Or.inl rfl, Or.inl rfl⟩, fun k _ h => absurd (show (0 : Int32) = 2 from h) (by decide)⟩
theorem st_R1 : R1 0 0 0 st_N st_G st_N st_G := ⟨⟨rfl, rfl, rfl⟩, fun i hi => absurd hi (Nat.not_lt_zero i), fun j _ => rfl⟩
theorem st_R2 : R2 0 0 0 st_N st_G st_N st_G := ⟨st_R1, fun r hr => by
  refine ⟨?_, rfl⟩
  show (if r < 341 then (-1 : Int32) else 0) = -1
  rw [if_pos hr]⟩
theorem st_us (x : Int32) (n : Nat) : c_X4_used_ls st_G x (-1) n = 0 := by
  induction n with
  | zero => rfl
  | succ n ih => rw [c_X4_used_ls, ih, if_neg (show ¬ st_G 201 n = 1 from (by decide : ¬ (0 : Int32) = 1))]; rfl
theorem st_R3 : R3 0 0 0 st_N st_G st_N st_G := ⟨st_R2, ⟨fun l r hl => absurd hl (Nat.not_lt_zero l), fun l r hl => absurd hl (Nat.not_lt_zero l), fun k _ _ => rfl, fun l hl => absurd hl (Nat.not_lt_zero l), fun k _ h => absurd h (by rintro (h | h); exact absurd (show (0 : Int32) = 1 from h) (by decide); exact absurd (show (0 : Int32) = 2 from h) (by decide)), fun k _ h => absurd (show (0 : Int32) = 1 from h) (by decide)⟩, fun o _ => (st_us (nI o) 2046).symm, rfl⟩
theorem st_J : mt_J 0 0 0 st_N st_G (fun _ => none) := ⟨by decide, by decide, by decide, fun _ => rfl, fun i hi => absurd hi (Nat.not_lt_zero i), st_MI, st_R3⟩
theorem st_rr {ad : Nat → Nat} {b : Nat} : mt_rr ad b 0 = fun _ => none := by
  funext i; unfold mt_rr; rw [if_neg (Nat.not_lt_zero i)]
set_option maxHeartbeats 4000000 in
theorem st_W {g : mt_G} {a a2 ad4 : Nat → Nat} (e : ∀ k, 1 ≤ k → k < 8 → ad4 k = a k) (e2 : ∀ k, 201 ≤ k → k < 215 → ad4 k = a2 k) :
    mt_up (mt_up (c_wX4 g (c_wX3 g (fun _ => none) a (fun j => if j < 4 then 20000 else 0) (fun j => if j < 341 then (-1) else 0)) a2 (fun j => if j < 4 then 20000 else 0)) 300 (.inl (g.2 5, 1, .inr (.inl (fun _ => 0))))) 301 (.inl (g.2 6, 1, .inr (.inr (.inr (.inl (fun _ => 0)))))) = mt_wc g ad4 0 0 0 st_N st_G (fun _ => 0) (fun _ => 0, fun _ => none) := by
  funext b
  by_cases h301 : b = 301
  · subst h301; rfl
  by_cases h300 : b = 300
  · subst h300; rfl
  unfold mt_up
  rw [if_neg h301, if_neg h300]
  by_cases h0 : b = 0
  · subst h0
    show some (Sum.inr (5, mt_tb a 0 0 0 (fun _ => 0))) = some (Sum.inr (5, mt_tb ad4 0 0 0 (st_N 0)))
    unfold mt_tb
    rw [e 1 (by decide) (by decide), e 2 (by decide) (by decide), e 3 (by decide) (by decide), e 4 (by decide) (by decide), e 5 (by decide) (by decide), e 6 (by decide) (by decide), e 7 (by decide) (by decide)]
    rfl
  by_cases h1 : b = 1
  · subst h1; show _ = some (Sum.inl (g.2 2, 6, Sum.inr (Sum.inr (Sum.inr (Sum.inr (mt_rr ad4 100 0)))))); rw [st_rr]; rfl
  by_cases h2 : b = 2
  · subst h2; show _ = some (Sum.inl (g.2 3, 8, Sum.inr (Sum.inr (Sum.inr (Sum.inr (mt_rr ad4 150 0)))))); rw [st_rr]; rfl
  by_cases h3 : b = 3
  · subst h3; show _ = some (Sum.inl (g.2 4, 6, Sum.inr (Sum.inr (Sum.inr (Sum.inr (mt_rr ad4 160 0)))))); rw [st_rr]; rfl
  by_cases h4 : b = 4
  · subst h4; rfl
  by_cases h5 : b = 5
  · subst h5; rfl
  by_cases h6 : b = 6
  · subst h6; rfl
  by_cases h7 : b = 7
  · subst h7; rfl
  by_cases h200 : b = 200
  · subst h200
    show some (Sum.inr (6, mt_mo a2 (fun _ => 0))) = some (Sum.inr (6, mt_mo ad4 (st_N 200)))
    unfold mt_mo
    rw [e2 201 (by decide) (by decide), e2 202 (by decide) (by decide), e2 203 (by decide) (by decide), e2 205 (by decide) (by decide), e2 206 (by decide) (by decide), e2 207 (by decide) (by decide), e2 208 (by decide) (by decide), e2 209 (by decide) (by decide), e2 211 (by decide) (by decide), e2 213 (by decide) (by decide), e2 214 (by decide) (by decide)]
    rfl
  by_cases h201 : b = 201
  · subst h201; rfl
  by_cases h202 : b = 202
  · subst h202; rfl
  by_cases h203 : b = 203
  · subst h203; rfl
  by_cases h205 : b = 205
  · subst h205; rfl
  by_cases h206 : b = 206
  · subst h206; rfl
  by_cases h207 : b = 207
  · subst h207; rfl
  by_cases h208 : b = 208
  · subst h208; rfl
  by_cases h209 : b = 209
  · subst h209; rfl
  by_cases h211 : b = 211
  · subst h211; rfl
  by_cases h213 : b = 213
  · subst h213; rfl
  by_cases h214 : b = 214
  · subst h214; rfl
  have r1 : mt_arr g 0 0 st_N b = none := by
    unfold mt_arr
    repeat' split
    all_goals first | rfl | (exfalso; omega)
  have r2 : mt_obj g ad4 0 0 0 st_N (fun _ => 0) (fun _ => 0, fun _ => none) b = none := by
    unfold mt_obj
    repeat' split
    all_goals first | rfl | (exfalso; omega)
  rw [wc_ob r1, r2]
  unfold c_wX4 c_wX3
  simp only [h0, h1, h2, h3, h4, h5, h6, h7, h200, h201, h202, h203, h205, h206, h207, h208, h209, h211, h213, h214, if_false]
theorem st_ar {s : State} {args : Array Value} {ty : FieldType} (h : (Cond.arrayClass ty).before args s = true) : ∃ cA : ClassId, ArrOfT s cA ty ∧ s.vm.findClass ("[" ++ ty.toString) = some cA := by
  obtain ⟨cA, kA, comp, h1, h2, h3⟩ := Cond.arrayClass_spec h
  exact ⟨cA, fun n z => ⟨fun k h => (by cases h), kA, h2, comp, h3⟩, h1⟩
theorem st_ao {s : State} {args : Array Value} {C : String} (h : (Cond.arrayOver (.object C)).before args s = true) : ∃ cA : ClassId, ArrOfT s cA (.object C) ∧ va_RA s cA (.object C) := by
  obtain ⟨comp, cA, kA, h1, h2, h3, h4, h5⟩ := Cond.arrayOver_spec h
  exact ⟨cA, fun n z => ⟨fun k h => (by cases h), kA, h3, comp, h4⟩, kA, comp, h3, h4, h1, h5⟩
theorem iw_J0 : ∀ w ∈ u_ws RJ0 TJ0 2, w ∈ mt_T := by
  intro w hw
  obtain ⟨k, hk, rfl⟩ := List.mem_map.mp hw
  have hk := List.mem_range.mp hk
  match k, hk with
  | 0, _ => exact mw_la_J0_J0_value
  | 1, _ => exact mw_la_J0_J0_coder
  | j + 2, h => exact absurd h (by omega)
theorem iw_Jx : ∀ w ∈ u_ws RJx00060 TJx00060 6, w ∈ mt_T := by
  intro w hw
  obtain ⟨k, hk, rfl⟩ := List.mem_map.mp hw
  have hk := List.mem_range.mp hk
  match k, hk with
  | 0, _ => exact mw_la_Jx00060_java_lang_Throwable_backtrace
  | 1, _ => exact mw_la_Jx00060_java_lang_Throwable_detailMessage
  | 2, _ => exact mw_la_Jx00060_java_lang_Throwable_cause
  | 3, _ => exact mw_la_Jx00060_java_lang_Throwable_stackTrace
  | 4, _ => exact mw_la_Jx00060_java_lang_Throwable_depth
  | 5, _ => exact mw_la_Jx00060_java_lang_Throwable_suppressedExceptions
  | j + 6, h => exact absurd h (by omega)
abbrev st_fl : List Cond := flatC (Jvm.Cond.and given_1 narrow_1)
theorem st_nc : ∀ q ∈ mt_nc, Cond.not (.castable q.1 q.2) ∈ st_fl := by decide +kernel
theorem st_ex : ∀ q ∈ mt_strs, Cond.exactly (.string q.1 q.2.1) "java/lang/String" ∈ st_fl := by decide +kernel
theorem st_u : Cond.isRef (.static Bundle.tN "UNASSIGNED_STACK" Bundle.steD) ∈ st_fl := by decide +kernel
theorem st_v : Cond.isRef (.static Bundle.tN "SUPPRESSED_SENTINEL" Bundle.listD) ∈ st_fl := by decide +kernel
theorem st_lu : Cond.laysStatic Bundle.tN "UNASSIGNED_STACK" Bundle.steD ∈ tables_1 := mt_l1 187 rfl
theorem st_lv : Cond.laysStatic Bundle.tN "SUPPRESSED_SENTINEL" Bundle.listD ∈ tables_1 := mt_l1 189 rfl
theorem st_sr : ∀ q ∈ mt_strs, Cond.stringRef q.1 q.2.1 q.2.2 ∈ tables_1 := List.forall_mem_cons.mpr ⟨mt_l1 205 rfl, List.forall_mem_cons.mpr ⟨mt_l2 53 rfl, List.forall_mem_cons.mpr ⟨mt_l2 69 rfl, List.forall_mem_cons.mpr ⟨mt_l2 90 rfl, List.forall_mem_cons.mpr ⟨mt_l2 97 rfl, List.forall_mem_cons.mpr ⟨mt_l2 142 rfl, List.forall_mem_cons.mpr ⟨mt_l2 153 rfl, List.forall_mem_cons.mpr ⟨mt_l2 178 rfl, List.forall_mem_cons.mpr ⟨mt_l2 195 rfl, List.forall_mem_cons.mpr ⟨mt_l2 196 rfl, List.forall_mem_cons.mpr ⟨mt_l2 205 rfl, List.forall_mem_cons.mpr ⟨mt_l2 218 rfl, List.forall_mem_cons.mpr ⟨mt_l3 19 rfl, List.forall_mem_cons.mpr ⟨mt_l3 50 rfl, List.forall_mem_cons.mpr ⟨mt_l3 51 rfl, List.forall_mem_cons.mpr ⟨mt_l3 71 rfl, List.forall_mem_cons.mpr ⟨mt_l3 97 rfl, List.forall_mem_cons.mpr ⟨mt_l3 135 rfl, List.forall_mem_cons.mpr ⟨mt_l3 165 rfl, List.forall_mem_cons.mpr ⟨mt_l3 199 rfl, List.forall_mem_cons.mpr ⟨mt_l3 208 rfl, fun q h => nomatch h⟩⟩⟩⟩⟩⟩⟩⟩⟩⟩⟩⟩⟩⟩⟩⟩⟩⟩⟩⟩⟩
theorem st_ao_m : ∀ C ∈ mt_ao, Cond.arrayOver (.object C) ∈ tables_1 := List.forall_mem_cons.mpr ⟨mt_l1 26 rfl, List.forall_mem_cons.mpr ⟨mt_l1 28 rfl, List.forall_mem_cons.mpr ⟨mt_l1 30 rfl, fun q h => nomatch h⟩⟩⟩
set_option maxHeartbeats 4000000 in
theorem st_C {p : Program} {s : State} {m : MethodId} {meth : Method} {c : Code} {b L : Nat} {xs : Nat → Int32} (C0 : lw_At p s m meth c b L xs) : ∃ g : mt_G, mt_C g s.heap.size s := by
  obtain ⟨hx, hb, hr, hml, hown, hts0, hX, hbl, hlocks, hgv⟩ := id C0
  have hts : ∀ w ∈ mt_T, w.before #[Value.ref b] s = true := fun w h => hts0 w (List.mem_filter.mp h).1
  have htb : ∀ w ∈ tables_1, w.before #[Value.ref b] s = true := fun w h => hts0 w (List.mem_append_right _ h)
  have hfl := flat_of_before _ hgv
  obtain ⟨c0, i0, k0⟩ := u_known (C := RJ0) (T := TJ0) (N := 2) hts iw_J0 (hts _ mw_ii_J0)
  obtain ⟨c1, i1, k1⟩ := u_known (C := RJx00060) (T := TJx00060) (N := 6) hts iw_Jx (hts _ mw_ii_Jx00060)
  obtain ⟨c2, i2, k2⟩ := u_known (C := RX0) (T := TX0) (N := 2) hts iw_X0 (hts _ mw_ii_X0)
  obtain ⟨c3, i3, k3⟩ := u_known (C := RX1) (T := TX1) (N := 4) hts iw_X1 (hts _ mw_ii_X1)
  obtain ⟨c4, i4, k4⟩ := u_known (C := RX2) (T := TX2) (N := 5) hts iw_X2 (hts _ mw_ii_X2)
  obtain ⟨c5, i5, k5⟩ := u_known (C := RX3) (T := TX3) (N := 11) hts iw_X3 (hts _ mw_ii_X3)
  obtain ⟨c6, i6, k6⟩ := u_known (C := RX4) (T := TX4) (N := 16) hts iw_X4 (hts _ mw_ii_X4)
  obtain ⟨t0, p0, q0⟩ := st_ar (hts _ mw_ac_int)
  obtain ⟨t1, p1, q1⟩ := st_ar (hts _ mw_ac_boolean)
  obtain ⟨t2, p2, q2⟩ := st_ao (htb _ (st_ao_m "MountTable$Layer" (by decide)))
  obtain ⟨t3, p3, q3⟩ := st_ao (htb _ (st_ao_m "MountTable$Mount" (by decide)))
  obtain ⟨t4, p4, q4⟩ := st_ao (htb _ (st_ao_m "MountTable$Backup" (by decide)))
  obtain ⟨t5, p5, q5⟩ := st_ar (hts _ mw_ac_long)
  obtain ⟨t6, p6, q6⟩ := st_ar (hts _ mw_ac_double)
  refine ⟨((fun k => match k with | 0 => c0 | 1 => c1 | 2 => c2 | 3 => c3 | 4 => c4 | 5 => c5 | _ => c6, fun k => match k with | 0 => i0 | 1 => i1 | 2 => i2 | 3 => i3 | 4 => i4 | 5 => i5 | _ => i6), fun k => match k with | 0 => t0 | 1 => t1 | 2 => t2 | 3 => t3 | 4 => t4 | 5 => t5 | _ => t6), ⟨?_, ?_⟩, Nat.le_refl _, ?_, ?_, ?_, ?_, ?_, ?_⟩
  · intro k q hq
    match k, hq with
    | 0, hq => cases hq; exact k0
    | 1, hq => cases hq; exact k1
    | 2, hq => cases hq; exact k2
    | 3, hq => cases hq; exact k3
    | 4, hq => cases hq; exact k4
    | 5, hq => cases hq; exact k5
    | 6, hq => cases hq; exact k6
    | k + 7, hq => simp [vwCl] at hq
  · intro k q hq
    match k, hq with
    | 0, hq => cases hq; exact ⟨p0, q0⟩
    | 1, hq => cases hq; exact ⟨p1, q1⟩
    | 2, hq => cases hq; exact ⟨p2, q2⟩
    | 3, hq => cases hq; exact ⟨p3, q3⟩
    | 4, hq => cases hq; exact ⟨p4, q4⟩
    | 5, hq => cases hq; exact ⟨p5, q5⟩
    | 6, hq => cases hq; exact ⟨p6, q6⟩
    | k + 7, hq => simp [mt_tys] at hq
  · exact vx_Zqof (htb _ st_lu) (hts _ mw_in_java_lang_Throwable) (hfl _ st_u) (fun a h1 h2 => absurd h1 (Nat.not_lt.mpr h2))
  · exact vx_Zqof (htb _ st_lv) (hts _ mw_in_java_lang_Throwable) (hfl _ st_v) (fun a h1 h2 => absurd h1 (Nat.not_lt.mpr h2))
  · intro q hq
    obtain ⟨a, cx, cell, kx, h1, -⟩ := Cond.exactly_spec (hfl _ (st_ex q hq))
    exact ⟨a, vk_R.of (htb _ (st_sr q hq)) h1⟩
  · intro w hw
    exact va_Nw.of (mt_bwt (List.mem_filter.mp hw).2) (htb w (List.mem_filter.mp hw).1)
  · intro q hq
    exact va_Nc.of (hfl _ (st_nc q hq))
  · intro C hC
    exact va_AO.of (htb _ (st_ao_m C hC))
set_option maxRecDepth 100000 in
set_option maxHeartbeats 4000000 in
/-- YOUR PART: from the entry, for every script of at most 2048 ints, the law comes to its end with true ('hflags': the launch's flags, for a law that throws: no stack traces) -/
theorem whole_start {p : Program} {e : Env} {s : State} {m : MethodId} {below : List Frame} {meth : Method} {c : Code} (l : Launch) (hflags : l.flags = flags0) {b L : Nat} {xs : Nat → Int32} (hL : L ≤ 2048) (C0 : lw_At p s m meth c b L xs) : W p l e room_1 s m #[Value.ref b] below meth c s.heap [] 0 0 (lw_Z below #[Value.ref b] s) (entryFrame m ([Value.ref b] : List Value).toArray 9) := by
  obtain ⟨g, hC⟩ := st_C C0
  obtain ⟨hx, hb, hr, hml, hown, hts0, hX, hbl, hlocks, hgv⟩ := id C0
  have hlt : l.stackTraces = false := by
    show (!l.flags.contains noTraceFlag) = false
    rw [hflags]; decide +kernel
  have hts : ∀ w ∈ mt_T, w.before #[Value.ref b] s = true := fun w h => hts0 w (List.mem_filter.mp h).1
  have S : CallFix p m c cL_law 9 s #[Value.ref b] (Cond.initialized "MountTableLaw" :: mt_T) RL := ⟨hx, hb, hml, hown, fun w hw => by
    rcases List.mem_cons.mp hw with h | h
    · rw [h]; exact hts _ mw_in_L
    · exact hts w h⟩
  have hbA : ¬ mt_A s.heap.size b := Nat.not_le.mpr hbl
  have hS : va_S (mt_A s.heap.size) s.heap s.heap [] := va_S.rf
  have hW : mt_W g s.heap.size (fun _ => none) (fun _ => 0) s.heap := ⟨fun k e h => (by cases h), fun i j e f h => (by cases h)⟩
  have hl := lv_entry ([.ref b]) (n := 9) (Nat.le_of_ble_eq_true rfl)
  rw [lg_entry_eq]
  generalize (lg_sl ([.ref b]) ++ List.replicate (9 - (lg_sl ([.ref b])).length) Slot.unset).toArray = ls at hl ⊢
  have hl : lv_has ls 9 [(0, .ref b)] := hl
  refine mt_new S iw_X3 tyX3 tyX3_ok hC hW hS mw_cl_L_8 mw_ii_X3 mw_in_X3 (ci := 5) rfl 0 rfl (fs := [.null, .null, .null, .null, .null, .null, .null, .int 0, .int 0, .int 0, .int 0]) (fun j hj => by match j, hj with | 0, _ => rfl | 1, _ => rfl | 2, _ => rfl | 3, _ => rfl | 4, _ => rfl | 5, _ => rfl | 6, _ => rfl | 7, _ => rfl | 8, _ => rfl | 9, _ => rfl | 10, _ => rfl) (Nat.le_of_ble_eq_true rfl) (Nat.le_of_ble_eq_true rfl) dL_law_0 (fun q1 H hW hS => ?_)
  refine lv_dup hx hb dL_law_3 rfl ?_
  refine mt_cI (As := []) (rest := [.ref q1]) S pI_X3 mw_ml_L_102 (k_X3_init l g s.heap.size (fun _ => none) _ q1 mt_ua_eq rfl rfl rfl rfl rfl rfl rfl) hC hW hS rfl hl.1 rfl (Nat.le_of_ble_eq_true rfl) dL_law_4 ⟨(Nat.le_of_ble_eq_true rfl), (Nat.le_of_ble_eq_true rfl)⟩ ⟨(Nat.le_of_ble_eq_true rfl), (Nat.le_of_ble_eq_true rfl)⟩ (fun H locs a hCa hW hS => ?_)
  have ea0 : a 0 = q1 := (hCa 0 (by decide)).trans mt_ua_eq
  refine lv_astore_n (lv' := [(1, .ref q1), (0, .ref b)]) hx hb dL_law_7 rfl hl (by decide) rfl (fun ls hl => ?_)
  refine mt_new S iw_X4 tyX4 tyX4_ok hC hW hS mw_cl_L_103 mw_ii_X4 mw_in_X4 (ci := 6) rfl 200 rfl (fs := [.null, .null, .null, .int 0, .null, .null, .null, .null, .null, .int 0, .null, .int 0, .null, .null, .int 0, .int 0]) (fun j hj => by match j, hj with | 0, _ => rfl | 1, _ => rfl | 2, _ => rfl | 3, _ => rfl | 4, _ => rfl | 5, _ => rfl | 6, _ => rfl | 7, _ => rfl | 8, _ => rfl | 9, _ => rfl | 10, _ => rfl | 11, _ => rfl | 12, _ => rfl | 13, _ => rfl | 14, _ => rfl | 15, _ => rfl | k + 16, h => exact absurd h (by omega)) (Nat.le_of_ble_eq_true rfl) (Nat.le_of_ble_eq_true rfl) dL_law_8 (fun q2 H hW hS => ?_)
  refine lv_dup hx hb dL_law_11 rfl ?_
  refine mt_cI (As := []) (rest := [.ref q2]) S pI_X4 mw_ml_L_105 (k_X4_init l g s.heap.size _ _ q2 mt_ua_eq rfl rfl rfl rfl rfl rfl rfl rfl rfl rfl rfl) hC hW hS rfl hl.1 rfl (Nat.le_of_ble_eq_true rfl) dL_law_12 ⟨(Nat.le_of_ble_eq_true rfl), (Nat.le_of_ble_eq_true rfl)⟩ ⟨(Nat.le_of_ble_eq_true rfl), (Nat.le_of_ble_eq_true rfl)⟩ (fun H locs a2 hCb hW hS => ?_)
  have eb : ∀ k, k < 200 → a2 k = a k := fun k hk => (hCb k (by omega)).trans (mt_ua_ne (by omega))
  have eb200 : a2 200 = q2 := (hCb 200 (by decide)).trans mt_ua_eq
  refine lv_astore_n (lv' := [(2, .ref q2), (1, .ref q1), (0, .ref b)]) hx hb dL_law_15 rfl hl (by decide) rfl (fun ls hl => ?_)
  refine lv_iconst (v := 1) hx hb dL_law_16 (by decide) ?_
  refine mt_newa S hC hW hS 5 (atype := .long) (ty := .long) rfl mw_ac_long rfl (fun C h => by cases h) 300 rfl (N' := 1) (a0 := (1, .inr (.inl (fun _ => 0)))) (fun cA => rfl) (by decide) (by decide) (by decide) (Nat.le_of_ble_eq_true rfl) (Nat.le_of_ble_eq_true rfl) dL_law_17 (fun q3 H hW hS => ?_)
  refine lv_astore_n (lv' := [(3, .ref q3), (2, .ref q2), (1, .ref q1), (0, .ref b)]) hx hb dL_law_19 rfl hl (by decide) rfl (fun ls hl => ?_)
  refine lv_iconst (v := 1) hx hb dL_law_20 (by decide) ?_
  refine mt_newa S hC hW hS 6 (atype := .double) (ty := .double) rfl mw_ac_double rfl (fun C h => by cases h) 301 rfl (N' := 1) (a0 := (1, .inr (.inr (.inr (.inl (fun _ => 0)))))) (fun cA => rfl) (by decide) (by decide) (by decide) (Nat.le_of_ble_eq_true rfl) (Nat.le_of_ble_eq_true rfl) dL_law_21 (fun q4 H hW hS => ?_)
  refine lv_astore (lv' := [(4, .ref q4), (3, .ref q3), (2, .ref q2), (1, .ref q1), (0, .ref b)]) hx hb dL_law_23 hl (by decide) rfl (fun ls hl => ?_)
  refine lv_iconst (v := 0) hx hb dL_law_25 (by decide) ?_
  refine lv_istore (lv' := [(5, .int (nI 0)), (4, .ref q4), (3, .ref q3), (2, .ref q2), (1, .ref q1), (0, .ref b)]) hx hb dL_law_26 hl (by decide) rfl (fun ls hl => ?_)
  have hW := hW.to (w1 := mt_wc g (mt_ua (mt_ua a2 300 q3) 301 q4) 0 0 0 st_N st_G (fun _ => 0) (fun _ => 0, fun _ => none)) (st_W (fun k h1 h2 => by rw [mt_ua_ne (by omega), mt_ua_ne (by omega)]; exact eb k (by omega)) (fun k h1 h2 => by rw [mt_ua_ne (by omega), mt_ua_ne (by omega)]))
  have hl : lv_has ls 9 [(0, .ref b), (1, .ref (mt_ua (mt_ua a2 300 q3) 301 q4 0)), (2, .ref (mt_ua (mt_ua a2 300 q3) 301 q4 200)), (3, .ref (mt_ua (mt_ua a2 300 q3) 301 q4 300)), (4, .ref (mt_ua (mt_ua a2 300 q3) 301 q4 301)), (5, .int (nI (4 * 0)))] := by
    rw [show mt_ua (mt_ua a2 300 q3) 301 q4 0 = q1 from (eb 0 (by decide)).trans ea0, show mt_ua (mt_ua a2 300 q3) 301 q4 200 = q2 from eb200, show mt_ua (mt_ua a2 300 q3) 301 q4 300 = q3 from rfl, show mt_ua (mt_ua a2 300 q3) 301 q4 301 = q4 from rfl]
    exact lv_sub hl [5, 4, 3, 2, 1, 0] rfl
  have hd0 := Drawn.sameBut.refl s.drawn lw_cs
  refine law_loop l hlt S hC hX hbl hbA hL (fun H locs ls cells slots h1 h2 hS => ?_) 513 0 rfl _ 0 0 0 st_N st_G (fun _ => 0) (fun _ => 0, fun _ => none) H _ _ _ ls (Nat.zero_le _) (Nat.le_of_ble_eq_true rfl) (Nat.le_of_ble_eq_true rfl) st_J hW hS hl
  refine va_forget (fun q hq => hS.2.2 q hq) ?_
  refine W.widen (k := 603072) (n := 7219306) h1 h2 ?_
  exact lw_ret hd0 hx hb hr hlocks dL_law_1052

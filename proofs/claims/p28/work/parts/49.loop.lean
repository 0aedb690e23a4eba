theorem lp_stop {L i : Nat} (hL : L ≤ 2048) (hi : i ≤ 2048) (h : ¬ nI L - 4 < nI i) : i + 4 ≤ L := by
  rcases Nat.lt_or_ge L 4 with q | q
  · refine absurd (Int32.lt_of_lt_of_le ?_ (nI_pos' (n := i) (by omega))) h
    rcases (show L = 0 ∨ L = 1 ∨ L = 2 ∨ L = 3 by omega) with rfl | rfl | rfl | rfl <;> decide
  · have h2 : ¬ nI (L - 4) < nI i := by rw [← nI_subN q]; exact h
    rcases Nat.lt_or_ge (L - 4) i with q2 | q2
    · exact absurd (nI_lt q2 (by omega)) h2
    · omega
set_option maxRecDepth 100000 in
set_option maxHeartbeats 4000000 in
theorem law_loop (l : Launch) (hlt : l.stackTraces = false) {p : Program} {e : Env} {s : State} {m : MethodId} {args : Array Value} {below : List Frame} {meth : Method} {c : Code} {w0 : Cond} (S : CallFix p m c cL_law 9 s args (w0 :: mt_T) RL) {z : Nat} {g : mt_G} (hC : mt_C g z s) {b L : Nat} {xs : Nat → Int32} (hX : va_X b L xs s s.heap) (hbl : b < s.heap.size) (hbA : ¬ mt_A z b) (hL : L ≤ 2048) {Q : State → Prop}
    (hexit : ∀ (H : Heap) (locs : List Loc) (ls : Array Slot) (cells slots : Nat), cells ≤ 603072 → slots ≤ 7219306 → va_S (mt_A z) s.heap H locs → W p l e room_1 s m args below meth c H locs cells slots Q (F0 m 1052 ls [.int 1])) :
    ∀ (n r : Nat), r + n = 513 → ∀ (ad : Nat → Nat) (lc mc bc : Nat) (N G : Nat → Nat → Int32) (o : Nat → Int64) (d : mt_D) (H : Heap) (locs : List Loc) (cells slots : Nat) (ls : Array Slot), 4 * r ≤ L → cells + 8 * n + 16 ≤ 603072 → slots + 2100 * n + 5000 ≤ 7219306 → mt_J lc mc bc N G d.2 → mt_W g z (mt_wc g ad lc mc bc N G o d) ad H → va_S (mt_A z) s.heap H locs → lv_has ls 9 [(0, .ref b), (1, .ref (ad 0)), (2, .ref (ad 200)), (3, .ref (ad 300)), (4, .ref (ad 301)), (5, .int (nI (4 * r)))] →
      W p l e room_1 s m args below meth c H locs cells slots Q (F0 m 28 ls []) := by
  have hx := S.1
  have hb := S.2.1
  intro n
  induction n with
  | zero =>
    intro r hr ad lc mc bc N G o d H locs cells slots ls h4
    exact absurd h4 (by omega)
  | succ n ih =>
    intro r hr ad lc mc bc N G o d H locs cells slots ls h4 hcr hsl J hW hS hl
    refine lv_iload hx hb dL_law_28 (lv_at hl 5 rfl) ?_
    refine lv_aload_n hx hb dL_law_30 rfl (lv_at hl 0 rfl) ?_
    refine va_slen hx hb hX hbl hbA hS dL_law_31 ?_
    refine lv_iconst (v := 4) hx hb dL_law_32 (by decide) ?_
    refine lv_isub hx hb dL_law_33 ?_
    refine lv_icmp_gt (tgt := 1051) hx hb dL_law_34 (by decide) (fun c_1 => ?_) (fun c_1 => ?_)
    · refine lv_iconst (v := 1) hx hb dL_law_1051 (by decide) ?_
      exact hexit H locs ls cells slots (by omega) (by omega) hS
    have hi : 4 * r + 4 ≤ L := lp_stop hL (by omega) c_1
    refine lv_aload_n hx hb dL_law_37 rfl (lv_at hl 0 rfl) ?_
    refine lv_iload hx hb dL_law_38 (lv_at hl 5 rfl) ?_
    refine va_sld hx hb hX hbl hbA hS (i := nI (4 * r)) (vp_in_nI (by omega) (by omega)) dL_law_40 ?_
    refine lv_bipush (v := 31) hx hb dL_law_41 (by decide) ?_
    refine lv_iand hx hb dL_law_43 ?_
    have hk0 : ∀ (H1 : Heap) (locs1 : List Loc) (ls1 : Array Slot) (a1 : Nat → Nat) (lc1 mc1 bc1 : Nat) (N1 G1 : Nat → Nat → Int32) (o1 : Nat → Int64) (d1 : mt_D), mt_J lc1 mc1 bc1 N1 G1 d1.2 → mt_W g z (mt_wc g a1 lc1 mc1 bc1 N1 G1 o1 d1) a1 H1 → va_S (mt_A z) s.heap H1 locs1 → lv_has ls1 9 [(0, .ref b), (1, .ref (a1 0)), (2, .ref (a1 200)), (3, .ref (a1 300)), (4, .ref (a1 301)), (5, .int (nI (4 * r)))] → W p l e room_1 s m args below meth c H1 locs1 (cells + 8) (slots + 2100) Q (F0 m 1045 ls1 []) := by
      intro H1 locs1 ls1 a1 lc1 mc1 bc1 N1 G1 o1 d1 J1 hW1 hS1 hl1
      refine lv_iinc (v := nI (4 * (r + 1))) (lv' := [(5, .int (nI (4 * (r + 1)))), (0, .ref b), (1, .ref (a1 0)), (2, .ref (a1 200)), (3, .ref (a1 300)), (4, .ref (a1 301))]) hx hb dL_law_1045 hl1 (k := 5) rfl (by show nI (4 * r) + nI 4 = _; rw [nI_add]; rfl) (by decide) rfl (fun ls2 hl2 => ?_)
      refine lv_goto (tgt := 28) hx hb dL_law_1048 (by decide) ?_
      exact ih (r + 1) (by omega) a1 lc1 mc1 bc1 N1 G1 o1 d1 H1 locs1 (cells + 8) (slots + 2100) ls2 (by omega) (by omega) (by omega) J1 hW1 hS1 (lv_sub hl2 [1, 2, 3, 4, 5, 0] rfl)
    obtain ⟨k, hk, e9⟩ := pk_andE (xs (nI (4 * r)).toNatClampNeg) (m := 31) 5 (by decide)
    rw [e9]
    match k, hk with
    | 0, _ => exact lv_tableIn (off := 124) (tgt := 168) hx hb dL_law_44 (by decide) (by decide) (by decide) (by decide) (lc_0 l hlt p e s m args below meth c w0 S z g hC b L xs hX hbl hbA hL Q ad lc mc bc N G o d J (4 * r) hi H locs cells slots ls (by omega) (by omega) hW hS hl hk0)
    | 1, _ => exact lv_tableIn (off := 140) (tgt := 184) hx hb dL_law_44 (by decide) (by decide) (by decide) (by decide) (lc_1 l hlt p e s m args below meth c w0 S z g hC b L xs hX hbl hbA hL Q ad lc mc bc N G o d J (4 * r) hi H locs cells slots ls (by omega) (by omega) hW hS hl hk0)
    | 2, _ => exact lv_tableIn (off := 192) (tgt := 236) hx hb dL_law_44 (by decide) (by decide) (by decide) (by decide) (lc_2 l hlt p e s m args below meth c w0 S z g hC b L xs hX hbl hbA hL Q ad lc mc bc N G o d J (4 * r) hi H locs cells slots ls (by omega) (by omega) hW hS hl hk0)
    | 3, _ => exact lv_tableIn (off := 220) (tgt := 264) hx hb dL_law_44 (by decide) (by decide) (by decide) (by decide) (lc_3 l hlt p e s m args below meth c w0 S z g hC b L xs hX hbl hbA hL Q ad lc mc bc N G o d J (4 * r) hi H locs cells slots ls (by omega) (by omega) hW hS hl hk0)
    | 4, _ => exact lv_tableIn (off := 260) (tgt := 304) hx hb dL_law_44 (by decide) (by decide) (by decide) (by decide) (lc_4 l hlt p e s m args below meth c w0 S z g hC b L xs hX hbl hbA hL Q ad lc mc bc N G o d J (4 * r) hi H locs cells slots ls (by omega) (by omega) hW hS hl hk0)
    | 5, _ => exact lv_tableIn (off := 316) (tgt := 360) hx hb dL_law_44 (by decide) (by decide) (by decide) (by decide) (lc_5 l hlt p e s m args below meth c w0 S z g hC b L xs hX hbl hbA hL Q ad lc mc bc N G o d J (4 * r) hi H locs cells slots ls (by omega) (by omega) hW hS hl hk0)
    | 6, _ => exact lv_tableIn (off := 344) (tgt := 388) hx hb dL_law_44 (by decide) (by decide) (by decide) (by decide) (lc_6 l hlt p e s m args below meth c w0 S z g hC b L xs hX hbl hbA hL Q ad lc mc bc N G o d J (4 * r) hi H locs cells slots ls (by omega) (by omega) hW hS hl hk0)
    | 7, _ => exact lv_tableIn (off := 357) (tgt := 401) hx hb dL_law_44 (by decide) (by decide) (by decide) (by decide) (lc_7 l hlt p e s m args below meth c w0 S z g hC b L xs hX hbl hbA hL Q ad lc mc bc N G o d J (4 * r) hi H locs cells slots ls (by omega) (by omega) hW hS hl hk0)
    | 8, _ => exact lv_tableIn (off := 409) (tgt := 453) hx hb dL_law_44 (by decide) (by decide) (by decide) (by decide) (lc_8 l hlt p e s m args below meth c w0 S z g hC b L xs hX hbl hbA hL Q ad lc mc bc N G o d J (4 * r) hi H locs cells slots ls (by omega) (by omega) hW hS hl hk0)
    | 9, _ => exact lv_tableIn (off := 461) (tgt := 505) hx hb dL_law_44 (by decide) (by decide) (by decide) (by decide) (lc_9 l hlt p e s m args below meth c w0 S z g hC b L xs hX hbl hbA hL Q ad lc mc bc N G o d J (4 * r) hi H locs cells slots ls (by omega) (by omega) hW hS hl hk0)
    | 10, _ => exact lv_tableIn (off := 489) (tgt := 533) hx hb dL_law_44 (by decide) (by decide) (by decide) (by decide) (lc_10 l hlt p e s m args below meth c w0 S z g hC b L xs hX hbl hbA hL Q ad lc mc bc N G o d J (4 * r) hi H locs cells slots ls (by omega) (by omega) hW hS hl hk0)
    | 11, _ => exact lv_tableIn (off := 517) (tgt := 561) hx hb dL_law_44 (by decide) (by decide) (by decide) (by decide) (lc_11 l hlt p e s m args below meth c w0 S z g hC b L xs hX hbl hbA hL Q ad lc mc bc N G o d J (4 * r) hi H locs cells slots ls (by omega) (by omega) hW hS hl hk0)
    | 12, _ => exact lv_tableIn (off := 545) (tgt := 589) hx hb dL_law_44 (by decide) (by decide) (by decide) (by decide) (lc_12 l hlt p e s m args below meth c w0 S z g hC b L xs hX hbl hbA hL Q ad lc mc bc N G o d J (4 * r) hi H locs cells slots ls (by omega) (by omega) hW hS hl hk0)
    | 13, _ => exact lv_tableIn (off := 573) (tgt := 617) hx hb dL_law_44 (by decide) (by decide) (by decide) (by decide) (lc_13 l hlt p e s m args below meth c w0 S z g hC b L xs hX hbl hbA hL Q ad lc mc bc N G o d J (4 * r) hi H locs cells slots ls (by omega) (by omega) hW hS hl hk0)
    | 14, _ => exact lv_tableIn (off := 601) (tgt := 645) hx hb dL_law_44 (by decide) (by decide) (by decide) (by decide) (lc_14 l hlt p e s m args below meth c w0 S z g hC b L xs hX hbl hbA hL Q ad lc mc bc N G o d J (4 * r) hi H locs cells slots ls (by omega) (by omega) hW hS hl hk0)
    | 15, _ => exact lv_tableIn (off := 629) (tgt := 673) hx hb dL_law_44 (by decide) (by decide) (by decide) (by decide) (lc_15 l hlt p e s m args below meth c w0 S z g hC b L xs hX hbl hbA hL Q ad lc mc bc N G o d J (4 * r) hi H locs cells slots ls (by omega) (by omega) hW hS hl hk0)
    | 16, _ => exact lv_tableIn (off := 657) (tgt := 701) hx hb dL_law_44 (by decide) (by decide) (by decide) (by decide) (lc_16 l hlt p e s m args below meth c w0 S z g hC b L xs hX hbl hbA hL Q ad lc mc bc N G o d J (4 * r) hi H locs cells slots ls (by omega) (by omega) hW hS hl hk0)
    | 17, _ => exact lv_tableIn (off := 697) (tgt := 741) hx hb dL_law_44 (by decide) (by decide) (by decide) (by decide) (lc_17 l hlt p e s m args below meth c w0 S z g hC b L xs hX hbl hbA hL Q ad lc mc bc N G o d J (4 * r) hi H locs cells slots ls (by omega) (by omega) hW hS hl hk0)
    | 18, _ => exact lv_tableIn (off := 725) (tgt := 769) hx hb dL_law_44 (by decide) (by decide) (by decide) (by decide) (lc_18 l hlt p e s m args below meth c w0 S z g hC b L xs hX hbl hbA hL Q ad lc mc bc N G o d J (4 * r) hi H locs cells slots ls (by omega) (by omega) hW hS hl hk0)
    | 19, _ => exact lv_tableIn (off := 753) (tgt := 797) hx hb dL_law_44 (by decide) (by decide) (by decide) (by decide) (lc_19 l hlt p e s m args below meth c w0 S z g hC b L xs hX hbl hbA hL Q ad lc mc bc N G o d J (4 * r) hi H locs cells slots ls (by omega) (by omega) hW hS hl hk0)
    | 20, _ => exact lv_tableIn (off := 766) (tgt := 810) hx hb dL_law_44 (by decide) (by decide) (by decide) (by decide) (lc_20 l hlt p e s m args below meth c w0 S z g hC b L xs hX hbl hbA hL Q ad lc mc bc N G o d J (4 * r) hi H locs cells slots ls (by omega) (by omega) hW hS hl hk0)
    | 21, _ => exact lv_tableIn (off := 779) (tgt := 823) hx hb dL_law_44 (by decide) (by decide) (by decide) (by decide) (lc_21 l hlt p e s m args below meth c w0 S z g hC b L xs hX hbl hbA hL Q ad lc mc bc N G o d J (4 * r) hi H locs cells slots ls (by omega) (by omega) hW hS hl hk0)
    | 22, _ => exact lv_tableIn (off := 807) (tgt := 851) hx hb dL_law_44 (by decide) (by decide) (by decide) (by decide) (lc_22 l hlt p e s m args below meth c w0 S z g hC b L xs hX hbl hbA hL Q ad lc mc bc N G o d J (4 * r) hi H locs cells slots ls (by omega) (by omega) hW hS hl hk0)
    | 23, _ => exact lv_tableIn (off := 851) (tgt := 895) hx hb dL_law_44 (by decide) (by decide) (by decide) (by decide) (lc_23 l hlt p e s m args below meth c w0 S z g hC b L xs hX hbl hbA hL Q ad lc mc bc N G o d J (4 * r) hi H locs cells slots ls (by omega) (by omega) hW hS hl hk0)
    | 24, _ => exact lv_tableIn (off := 879) (tgt := 923) hx hb dL_law_44 (by decide) (by decide) (by decide) (by decide) (lc_24 l hlt p e s m args below meth c w0 S z g hC b L xs hX hbl hbA hL Q ad lc mc bc N G o d J (4 * r) hi H locs cells slots ls (by omega) (by omega) hW hS hl hk0)
    | 25, _ => exact lv_tableIn (off := 907) (tgt := 951) hx hb dL_law_44 (by decide) (by decide) (by decide) (by decide) (lc_25 l hlt p e s m args below meth c w0 S z g hC b L xs hX hbl hbA hL Q ad lc mc bc N G o d J (4 * r) hi H locs cells slots ls (by omega) (by omega) hW hS hl hk0)
    | 26, _ => exact lv_tableIn (off := 924) (tgt := 968) hx hb dL_law_44 (by decide) (by decide) (by decide) (by decide) (lc_26 l hlt p e s m args below meth c w0 S z g hC b L xs hX hbl hbA hL Q ad lc mc bc N G o d J (4 * r) hi H locs cells slots ls (by omega) (by omega) hW hS hl hk0)
    | 27, _ => exact lv_tableOut (tgt := 1045) hx hb dL_law_44 (Or.inr (by decide)) (by decide) (W.widen (k := cells + 8) (n := slots + 2100) (by omega) (by omega) (hk0 H locs ls ad lc mc bc N G o d J hW hS hl))
    | 28, _ => exact lv_tableOut (tgt := 1045) hx hb dL_law_44 (Or.inr (by decide)) (by decide) (W.widen (k := cells + 8) (n := slots + 2100) (by omega) (by omega) (hk0 H locs ls ad lc mc bc N G o d J hW hS hl))
    | 29, _ => exact lv_tableOut (tgt := 1045) hx hb dL_law_44 (Or.inr (by decide)) (by decide) (W.widen (k := cells + 8) (n := slots + 2100) (by omega) (by omega) (hk0 H locs ls ad lc mc bc N G o d J hW hS hl))
    | 30, _ => exact lv_tableOut (tgt := 1045) hx hb dL_law_44 (Or.inr (by decide)) (by decide) (W.widen (k := cells + 8) (n := slots + 2100) (by omega) (by omega) (hk0 H locs ls ad lc mc bc N G o d J hW hS hl))
    | 31, _ => exact lv_tableOut (tgt := 1045) hx hb dL_law_44 (Or.inr (by decide)) (by decide) (W.widen (k := cells + 8) (n := slots + 2100) (by omega) (by omega) (hk0 H locs ls ad lc mc bc N G o d J hW hS hl))
    | k + 32, hk => exact absurd hk (by omega)

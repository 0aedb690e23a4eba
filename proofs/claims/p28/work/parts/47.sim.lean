/-! what holds between two rounds of the law -/
def mt_J (lc mc bc : Nat) (N G : Nat → Nat → Int32) (e : Nat → Option va_E) : Prop := lc ≤ 6 ∧ mc ≤ 8 ∧ bc ≤ 6 ∧ (∀ k, e k = none) ∧ Q01 mc N ∧ MI N G ∧ R3 lc mc bc N G N G
def mt_LC (pc0 : Nat) : Prop := ∀ (l : Launch) (_ : l.stackTraces = false) (p : Program) (e : Env) (s : State) (m : MethodId) (args : Array Value) (below : List Frame) (meth : Method) (c : Code) (w0 : Cond) (_ : CallFix p m c cL_law 9 s args (w0 :: mt_T) RL) (z : Nat) (g : mt_G) (_ : mt_C g z s) (b L : Nat) (xs : Nat → Int32) (_ : va_X b L xs s s.heap) (_ : b < s.heap.size) (_ : ¬ mt_A z b) (_ : L ≤ 2048) (Q : State → Prop)
  (ad : Nat → Nat) (lc mc bc : Nat) (N G : Nat → Nat → Int32) (o : Nat → Int64) (d : mt_D) (_ : mt_J lc mc bc N G d.2) (i : Nat) (_ : i + 4 ≤ L) (H : Heap) (locs : List Loc) (cells slots : Nat) (ls : Array Slot) (_ : cells + 16 ≤ 603072) (_ : slots + 5000 ≤ 7219306) (_ : mt_W g z (mt_wc g ad lc mc bc N G o d) ad H) (_ : va_S (mt_A z) s.heap H locs) (_ : lv_has ls 9 [(0, .ref b), (1, .ref (ad 0)), (2, .ref (ad 200)), (3, .ref (ad 300)), (4, .ref (ad 301)), (5, .int (nI i))])
  (_ : ∀ (H1 : Heap) (locs1 : List Loc) (ls1 : Array Slot) (a1 : Nat → Nat) (lc1 mc1 bc1 : Nat) (N1 G1 : Nat → Nat → Int32) (o1 : Nat → Int64) (d1 : mt_D), mt_J lc1 mc1 bc1 N1 G1 d1.2 → mt_W g z (mt_wc g a1 lc1 mc1 bc1 N1 G1 o1 d1) a1 H1 → va_S (mt_A z) s.heap H1 locs1 → lv_has ls1 9 [(0, .ref b), (1, .ref (a1 0)), (2, .ref (a1 200)), (3, .ref (a1 300)), (4, .ref (a1 301)), (5, .int (nI i))] → W p l e room_1 s m args below meth c H1 locs1 (cells + 8) (slots + 2100) Q (F0 m 1045 ls1 [])),
  W p l e room_1 s m args below meth c H locs cells slots Q (F0 m pc0 ls [])
theorem lc_eq {o : Nat → Int64} {x y : Int32} (h : x = y) : lg_cmp ((vp_updL o 0 x.toInt64) (0 : Int32).toNatClampNeg) y.toInt64 = 0 := by
  subst h
  rw [show (vp_updL o 0 x.toInt64) (0 : Int32).toNatClampNeg = x.toInt64 from rfl]
  simp [lg_cmp]
theorem lc_b0 {o : Nat → Int64} {x y : Int32} (h : x = y) (c : y = 0) : lg_cmp ((vp_updL o 0 (if x = 0 then 0 else 1)) (0 : Int32).toNatClampNeg) 0 = 0 := by
  subst h
  rw [if_pos c]
  rw [show (vp_updL o 0 0) (0 : Int32).toNatClampNeg = 0 from rfl]
  decide
theorem lc_b1 {o : Nat → Int64} {x y : Int32} (h : x = y) (c : ¬ y = 0) : lg_cmp ((vp_updL o 0 (if x = 0 then 0 else 1)) (0 : Int32).toNatClampNeg) 1 = 0 := by
  subst h
  rw [if_neg c]
  rw [show (vp_updL o 0 1) (0 : Int32).toNatClampNeg = 1 from rfl]
  decide
section SJ
variable {lc mc bc lc1 mc1 bc1 : Nat} {N G N1 G1 N2 G2 : Nat → Nat → Int32} {e : Nat → Option va_E}
theorem RS.to (h : MI N G) (ht : TO N N1) : RS N G N1 G := by
  obtain ⟨u, rfl⟩ := ht; exact RS_t h
theorem J_MI (J : mt_J lc mc bc N G e) : MI N G := J.2.2.2.2.2.1
theorem J_R (J : mt_J lc mc bc N G e) : R3 lc mc bc N G N G := J.2.2.2.2.2.2
theorem J_mk (h6 : lc1 ≤ 6) (h8 : mc1 ≤ 8) (hb : bc1 ≤ 6) (J : mt_J lc mc bc N G e) (hq : Q01 mc1 N1) (hM : MI N2 G2) (hN : LoE N1 N2) (hG : LoE G1 G2) (hR : R3 lc1 mc1 bc1 N1 G1 N2 G2) : mt_J lc1 mc1 bc1 N2 G2 e :=
  ⟨h6, h8, hb, J.2.2.2.1, q01_lo hq h8 hN, hM, hR.lo h6 h8 hN hG⟩
theorem J_ms (J : mt_J lc mc bc N G e) (hq : Q01 mc N1) (hs : RS N1 G1 N2 G2) (hR : R3 lc mc bc N1 G1 N2 G2) : mt_J lc mc bc N2 G2 e := J_mk J.1 J.2.1 J.2.2.1 J hq hs.1 hs.2.1 hs.2.2.1 hR
theorem sj_addLayer_l (J : mt_J lc mc bc N G e) {E : String} (hq : c_X3_addLayer lc mc bc N G = .inl E) : MI N G ∧ mt_J lc mc bc (c_X4_addLayer_N lc mc bc N G) G e := by
  obtain ⟨r1, r2, -⟩ := ad_r (lc := lc) (mc := mc) (bc := bc) (J_MI J)
  exact ⟨J_MI J, J_mk J.1 J.2.1 J.2.2.1 J J.2.2.2.2.1 r1 r2 LoE.rf (t3_addLayer_l (J_R J) (J_MI J) hq)⟩
theorem sj_addLayer_r (J : mt_J lc mc bc N G e) {x : Int32} (hq : c_X3_addLayer lc mc bc N G = .inr x) : MI N (mt_g0 G lc) ∧ mt_J (lc + 1) mc bc (c_X4_addLayer_N (lc + 1) mc bc N (mt_g0 G lc)) (mt_g0 G lc) e := by
  obtain ⟨h1, -⟩ := add_r J.1 hq
  have hM := (J_MI J).hi HiE.rf (hi_g0 J.1)
  obtain ⟨r1, r2, -⟩ := ad_r (lc := lc + 1) (mc := mc) (bc := bc) hM
  exact ⟨hM, J_mk (by omega) J.2.1 J.2.2.1 J J.2.2.2.2.1 r1 r2 LoE.rf (t3_addLayer_r ((J_R J).hi J.2.1 HiE.rf (hi_g0 J.1)) hM hq)⟩
theorem sj_mount_l (J : mt_J lc mc bc N G e) (x y v : Int32) {E : String} (hq : c_X3_mount lc mc bc N G x y v = .inl E) : MI N G ∧ mt_J lc mc bc (c_X4_mount_N lc mc bc N G x y v) (c_X4_mount_G lc mc bc N G x y v) e :=
  ⟨J_MI J, J_ms J J.2.2.2.2.1 (rs_mount (J_MI J)) (t3_mount_l (J_R J) (J_MI J) hq)⟩
theorem sj_mount_r (J : mt_J lc mc bc N G e) (x y v : Int32) {x0 : Int32} (hq : c_X3_mount lc mc bc N G x y v = .inr x0) : MI (mt_nm N mc x y v) (c_X3_serveAgain_G lc (mc + 1) bc (mt_nm N mc x y v) G) ∧ mt_J lc (mc + 1) bc (c_X4_mount_N lc (mc + 1) bc (mt_nm N mc x y v) (c_X3_serveAgain_G lc (mc + 1) bc (mt_nm N mc x y v) G) x y v) (c_X4_mount_G lc (mc + 1) bc (mt_nm N mc x y v) (c_X3_serveAgain_G lc (mc + 1) bc (mt_nm N mc x y v) G) x y v) e := by
  have hM := (J_MI J).hi (hi_nm (x := x) (y := y) (v := v) J.2.1) (hi_serveAgain (lc := lc) (mc := mc + 1) (bc := bc) (N := mt_nm N mc x y v))
  obtain ⟨h1, -, hR⟩ := t3_mount_r (a1 := lc) (a2 := mc + 1) (a3 := bc) ((J_R J).hi J.2.1 (hi_nm (x := x) (y := y) (v := v) J.2.1) (hi_serveAgain (lc := lc) (mc := mc + 1) (bc := bc) (N := mt_nm N mc x y v))) hM hq
  have hs := rs_mount (lc := lc) (mc := mc + 1) (bc := bc) (x := x) (y := y) (v := v) hM
  exact ⟨hM, J_mk J.1 (by omega) J.2.2.1 J (q01_nm J.2.2.2.2.1) hs.1 hs.2.1 hs.2.2.1 hR⟩
theorem sj_backUp_l (J : mt_J lc mc bc N G e) (x : Int32) (b01 : x = 0 ∨ x = 1) {E : String} (hq : c_X3_backUp lc mc bc N G x = .inl E) : MI N G ∧ mt_J lc mc bc (c_X4_backUp_N lc mc bc N G x) (c_X4_backUp_G lc mc bc N G x) e :=
  ⟨J_MI J, J_ms J J.2.2.2.2.1 (rs_backUp (J_MI J) b01) (t3_backUp_l (J_R J) (J_MI J) hq)⟩
theorem sj_backUp_r (J : mt_J lc mc bc N G e) (x : Int32) (b01 : x = 0 ∨ x = 1) {x0 : Int32} (hq : c_X3_backUp lc mc bc N G x = .inr x0) : MI (mt_nb N bc x) (mt_gb G bc (fun j => if j < c_bn x then c_X3_sizeNow lc mc bc N G x (nI j) else 0)) ∧ mt_J lc mc (bc + 1) (c_X4_backUp_N lc mc (bc + 1) (mt_nb N bc x) (mt_gb G bc (fun j => if j < c_bn x then c_X3_sizeNow lc mc bc N G x (nI j) else 0)) x) (c_X4_backUp_G lc mc (bc + 1) (mt_nb N bc x) (mt_gb G bc (fun j => if j < c_bn x then c_X3_sizeNow lc mc bc N G x (nI j) else 0)) x) e := by
  obtain ⟨h1, -⟩ := bak_r J.2.2.1 hq
  have hM := (J_MI J).hi (hi_nb (x := x) J.2.2.1) (hi_gb (f := (fun j => if j < c_bn x then c_X3_sizeNow lc mc bc N G x (nI j) else 0)) J.2.2.1)
  have hR := t3_backUp_r (f := (fun j => if j < c_bn x then c_X3_sizeNow lc mc bc N G x (nI j) else 0)) (a1 := lc) (a2 := mc) (a3 := bc + 1) ((J_R J).hi J.2.1 (hi_nb (x := x) J.2.2.1) (hi_gb (f := (fun j => if j < c_bn x then c_X3_sizeNow lc mc bc N G x (nI j) else 0)) J.2.2.1)) hM hq
  have hs := rs_backUp (lc := lc) (mc := mc) (bc := bc + 1) hM b01
  exact ⟨hM, J_mk J.1 J.2.1 (by omega) J (q01_nb J.2.2.2.2.1 J.2.1) hs.1 hs.2.1 hs.2.2.1 hR⟩
theorem sj_unmount (J : mt_J lc mc bc N G e) (x : Int32) : MI (c_X3_unmount_N lc mc bc N G x) (c_X3_unmount_G lc mc bc N G x) ∧ mt_J lc mc bc (c_X4_unmount_N lc mc bc (c_X3_unmount_N lc mc bc N G x) (c_X3_unmount_G lc mc bc N G x) x) (c_X4_unmount_G lc mc bc (c_X3_unmount_N lc mc bc N G x) (c_X3_unmount_G lc mc bc N G x) x) e := by
  have hN : HiE N (c_X3_unmount_N lc mc bc N G x) := hi_unmountN J.2.1
  have hG : HiE G (c_X3_unmount_G lc mc bc N G x) := hi_unmount
  have hM := (J_MI J).hi hN hG
  have hR := (J_R J).hi J.2.1 hN hG
  exact ⟨hM, J_ms J (q01_unmount J.2.2.2.2.1 J.2.1) (rs_unmount hM) (t3_unmount hR hM)⟩
theorem sj_move (J : mt_J lc mc bc N G e) (x : Int32) (y : Int32) : MI (c_X3_move_N lc mc bc N G x y) (c_X3_move_G lc mc bc N G x y) ∧ mt_J lc mc bc (c_X4_move_N lc mc bc (c_X3_move_N lc mc bc N G x y) (c_X3_move_G lc mc bc N G x y) x y) (c_X4_move_G lc mc bc (c_X3_move_N lc mc bc N G x y) (c_X3_move_G lc mc bc N G x y) x y) e := by
  have hN : HiE N (c_X3_move_N lc mc bc N G x y) := hi_moveN J.2.1
  have hG : HiE G (c_X3_move_G lc mc bc N G x y) := hi_move
  have hM := (J_MI J).hi hN hG
  have hR := (J_R J).hi J.2.1 hN hG
  exact ⟨hM, J_ms J (q01_move J.2.2.2.2.1 J.2.1) (rs_move hM) (t3_move hR hM)⟩
theorem sj_setCrossing (J : mt_J lc mc bc N G e) (x : Int32) (b : Int32) (b01 : b = 0 ∨ b = 1) : MI (c_X3_setCrossing_N lc mc bc N G x b) G ∧ mt_J lc mc bc (c_X4_setCrossing_N lc mc bc (c_X3_setCrossing_N lc mc bc N G x b) G x b) (c_X4_setCrossing_G lc mc bc (c_X3_setCrossing_N lc mc bc N G x b) G x b) e := by
  have hN : HiE N (c_X3_setCrossing_N lc mc bc N G x b) := hi_setCrossingN J.2.1
  have hG : HiE G G := HiE.rf
  have hM := (J_MI J).hi hN hG
  have hR := (J_R J).hi J.2.1 hN hG
  exact ⟨hM, J_ms J (q01_setCrossing J.2.2.2.2.1 b01) (rs_setCrossing hM b01) (t3_setCrossing hR hM)⟩
theorem sj_served (J : mt_J lc mc bc N G e) (x : Int32) : MI N G ∧ mt_J lc mc bc (c_X4_served_N lc mc bc N G x) G e := by
  have hN : HiE N N := HiE.rf
  have hG : HiE G G := HiE.rf
  have hM := (J_MI J).hi hN hG
  have hR := (J_R J).hi J.2.1 hN hG
  have ht : TO N (c_X4_served_N lc mc bc N G x) := (by unfold c_X4_served_N; exact to_if (to_t) (to_if (to_t) (to_t)))
  exact ⟨hM, J_ms J (J.2.2.2.2.1) (RS.to hM ht) (t3_same hR ht)⟩
theorem sj_covered (J : mt_J lc mc bc N G e) : MI N G ∧ mt_J lc mc bc (c_X4_covered_N lc mc bc N G) G e := by
  have hN : HiE N N := HiE.rf
  have hG : HiE G G := HiE.rf
  have hM := (J_MI J).hi hN hG
  have hR := (J_R J).hi J.2.1 hN hG
  have ht : TO N (c_X4_covered_N lc mc bc N G) := (by unfold c_X4_covered_N; exact to_t)
  exact ⟨hM, J_ms J (J.2.2.2.2.1) (RS.to hM ht) (t3_same hR ht)⟩
theorem sj_write (J : mt_J lc mc bc N G e) (x : Int32) (y : Int32) (v : Int32) : MI (c_X3_write_N lc mc bc N G x y v) (c_X3_write_G lc mc bc N G x y v) ∧ mt_J lc mc bc (c_X4_write_N lc mc bc (c_X3_write_N lc mc bc N G x y v) (c_X3_write_G lc mc bc N G x y v) x y v) (c_X4_write_G lc mc bc (c_X3_write_N lc mc bc N G x y v) (c_X3_write_G lc mc bc N G x y v) x y v) e := by
  have hN : HiE N (c_X3_write_N lc mc bc N G x y v) := hi_writeN
  have hG : HiE G (c_X3_write_G lc mc bc N G x y v) := hi_write J.1
  have hM := (J_MI J).hi hN hG
  have hR := (J_R J).hi J.2.1 hN hG
  exact ⟨hM, J_ms J (q01_write J.2.2.2.2.1 J.2.1) (rs_write hM) (t3_write J.1 hR hM)⟩
theorem sj_link (J : mt_J lc mc bc N G e) (x : Int32) (y : Int32) (v : Int32) : MI (c_X3_link_N lc mc bc N G x y v) (c_X3_link_G lc mc bc N G x y v) ∧ mt_J lc mc bc (c_X4_link_N lc mc bc (c_X3_link_N lc mc bc N G x y v) (c_X3_link_G lc mc bc N G x y v) x y v) (c_X4_link_G lc mc bc (c_X3_link_N lc mc bc N G x y v) (c_X3_link_G lc mc bc N G x y v) x y v) e := by
  have hN : HiE N (c_X3_link_N lc mc bc N G x y v) := hi_linkN
  have hG : HiE G (c_X3_link_G lc mc bc N G x y v) := hi_link J.1
  have hM := (J_MI J).hi hN hG
  have hR := (J_R J).hi J.2.1 hN hG
  exact ⟨hM, J_ms J (q01_link J.2.2.2.2.1 J.2.1) (rs_link hM) (t3_link J.1 hR hM)⟩
theorem sj_remove (J : mt_J lc mc bc N G e) (x : Int32) : MI N (c_X3_remove_G lc mc bc N G x) ∧ mt_J lc mc bc (c_X4_remove_N lc mc bc N (c_X3_remove_G lc mc bc N G x) x) (c_X4_remove_G lc mc bc N (c_X3_remove_G lc mc bc N G x) x) e := by
  have hN : HiE N N := HiE.rf
  have hG : HiE G (c_X3_remove_G lc mc bc N G x) := hi_remove J.1
  have hM := (J_MI J).hi hN hG
  have hR := (J_R J).hi J.2.1 hN hG
  exact ⟨hM, J_ms J (J.2.2.2.2.1) (rs_remove hM) (t3_remove J.1 hR hM)⟩
theorem sj_shows (J : mt_J lc mc bc N G e) (x : Int32) : MI N G ∧ mt_J lc mc bc (c_X4_shows_N lc mc bc N G x) G e := by
  have hN : HiE N N := HiE.rf
  have hG : HiE G G := HiE.rf
  have hM := (J_MI J).hi hN hG
  have hR := (J_R J).hi J.2.1 hN hG
  have ht : TO N (c_X4_shows_N lc mc bc N G x) := (by unfold c_X4_shows_N; exact to_if (to_t) (to_if (to_t) (to_if (to_t) (to_t))))
  exact ⟨hM, J_ms J (J.2.2.2.2.1) (RS.to hM ht) (t3_same hR ht)⟩
theorem sj_layerOf (J : mt_J lc mc bc N G e) (x : Int32) : MI N G ∧ mt_J lc mc bc (c_X4_layerOf_N lc mc bc N G x) G e := by
  have hN : HiE N N := HiE.rf
  have hG : HiE G G := HiE.rf
  have hM := (J_MI J).hi hN hG
  have hR := (J_R J).hi J.2.1 hN hG
  have ht : TO N (c_X4_layerOf_N lc mc bc N G x) := (by unfold c_X4_layerOf_N; exact to_if (to_t) (to_if (to_t) (to_t)))
  exact ⟨hM, J_ms J (J.2.2.2.2.1) (RS.to hM ht) (t3_same hR ht)⟩
theorem sj_end (J : mt_J lc mc bc N G e) (x : Int32) : MI N G ∧ mt_J lc mc bc (mt_gu N 200 15 (en_r lc mc bc N G x).2) G e := by
  have hN : HiE N N := HiE.rf
  have hG : HiE G G := HiE.rf
  have hM := (J_MI J).hi hN hG
  have hR := (J_R J).hi J.2.1 hN hG
  have ht : TO N (mt_gu N 200 15 (en_r lc mc bc N G x).2) := to_t
  exact ⟨hM, J_ms J (J.2.2.2.2.1) (RS.to hM ht) (t3_same hR ht)⟩
theorem sj_size (J : mt_J lc mc bc N G e) (x : Int32) : MI N G ∧ mt_J lc mc bc (c_X4_size_N lc mc bc N G x) G e := by
  have hN : HiE N N := HiE.rf
  have hG : HiE G G := HiE.rf
  have hM := (J_MI J).hi hN hG
  have hR := (J_R J).hi J.2.1 hN hG
  have ht : TO N (c_X4_size_N lc mc bc N G x) := (by unfold c_X4_size_N; exact to_if (to_if (to_t) (to_t)) (to_t))
  exact ⟨hM, J_ms J (J.2.2.2.2.1) (RS.to hM ht) (t3_same hR ht)⟩
theorem sj_sizeByWalking (J : mt_J lc mc bc N G e) (x : Int32) : MI N G ∧ mt_J lc mc bc (c_X4_sizeByWalking_N lc mc bc N G x) G e := by
  have hN : HiE N N := HiE.rf
  have hG : HiE G G := HiE.rf
  have hM := (J_MI J).hi hN hG
  have hR := (J_R J).hi J.2.1 hN hG
  have ht : TO N (c_X4_sizeByWalking_N lc mc bc N G x) := (by unfold c_X4_sizeByWalking_N; exact to_if (to_t) (to_if (to_t) (to_if (to_t) (to_t))))
  exact ⟨hM, J_ms J (J.2.2.2.2.1) (RS.to hM ht) (t3_same hR ht)⟩
theorem sj_ownerOf (J : mt_J lc mc bc N G e) (x : Int32) : MI N G ∧ mt_J lc mc bc (c_X4_ownerOf_N lc mc bc N G x) G e := by
  have hN : HiE N N := HiE.rf
  have hG : HiE G G := HiE.rf
  have hM := (J_MI J).hi hN hG
  have hR := (J_R J).hi J.2.1 hN hG
  have ht : TO N (c_X4_ownerOf_N lc mc bc N G x) := (by unfold c_X4_ownerOf_N; exact to_if (to_t) (to_if (to_t) (to_t)))
  exact ⟨hM, J_ms J (J.2.2.2.2.1) (RS.to hM ht) (t3_same hR ht)⟩
theorem sj_setQuota (J : mt_J lc mc bc N G e) (x : Int32) (y : Int32) : MI N (c_X3_setQuota_G lc mc bc N G x y) ∧ mt_J lc mc bc (c_X4_setQuota_N lc mc bc N (c_X3_setQuota_G lc mc bc N G x y) x y) (c_X4_setQuota_G lc mc bc N (c_X3_setQuota_G lc mc bc N G x y) x y) e := by
  have hN : HiE N N := HiE.rf
  have hG : HiE G (c_X3_setQuota_G lc mc bc N G x y) := hi_setQuota
  have hM := (J_MI J).hi hN hG
  have hR := (J_R J).hi J.2.1 hN hG
  exact ⟨hM, J_ms J (J.2.2.2.2.1) (rs_setQuota hM) (t3_setQuota hR hM)⟩
theorem sj_used (J : mt_J lc mc bc N G e) (x : Int32) : MI N G ∧ mt_J lc mc bc (c_X4_used__N lc mc bc N G x) G e := by
  have hN : HiE N N := HiE.rf
  have hG : HiE G G := HiE.rf
  have hM := (J_MI J).hi hN hG
  have hR := (J_R J).hi J.2.1 hN hG
  have ht : TO N (c_X4_used__N lc mc bc N G x) := (by unfold c_X4_used__N; exact to_if (to_t) (to_t))
  exact ⟨hM, J_ms J (J.2.2.2.2.1) (RS.to hM ht) (t3_same hR ht)⟩
theorem sj_usedByLayers (J : mt_J lc mc bc N G e) (x : Int32) : MI N G ∧ mt_J lc mc bc (c_X4_usedByLayers_N lc mc bc N G x) G e := by
  have hN : HiE N N := HiE.rf
  have hG : HiE G G := HiE.rf
  have hM := (J_MI J).hi hN hG
  have hR := (J_R J).hi J.2.1 hN hG
  have ht : TO N (c_X4_usedByLayers_N lc mc bc N G x) := (by unfold c_X4_usedByLayers_N; exact (by unfold c_X4_used__N; exact to_if (to_t) (to_t)))
  exact ⟨hM, J_ms J (J.2.2.2.2.1) (RS.to hM ht) (t3_same hR ht)⟩
theorem sj_hidden (J : mt_J lc mc bc N G e) : MI N (c_X3_hidden_G lc mc bc N G) ∧ mt_J lc mc bc (c_X4_hidden_N lc mc bc N (c_X3_hidden_G lc mc bc N G)) (c_X3_hidden_G lc mc bc N G) e := by
  have hN : HiE N N := HiE.rf
  have hG : HiE G (c_X3_hidden_G lc mc bc N G) := hi_hidden J.1
  have hM := (J_MI J).hi hN hG
  have hR := (J_R J).hi J.2.1 hN hG
  have ht : TO N (c_X4_hidden_N lc mc bc N (c_X3_hidden_G lc mc bc N G)) := (by unfold c_X4_hidden_N; exact to_t)
  exact ⟨hM, J_ms J (J.2.2.2.2.1) (RS.to hM ht) (t3_hidden J.1 J.2.1 hR ht)⟩
theorem sj_copies (J : mt_J lc mc bc N G e) : MI N G ∧ mt_J lc mc bc (c_X4_copies_N lc mc bc N G) G e := by
  have hN : HiE N N := HiE.rf
  have hG : HiE G G := HiE.rf
  have hM := (J_MI J).hi hN hG
  have hR := (J_R J).hi J.2.1 hN hG
  have ht : TO N (c_X4_copies_N lc mc bc N G) := (by unfold c_X4_copies_N; exact to_t)
  exact ⟨hM, J_ms J (J.2.2.2.2.1) (RS.to hM ht) (t3_same hR ht)⟩
theorem sj_whiteouts (J : mt_J lc mc bc N G e) (x : Int32) : MI N G ∧ mt_J lc mc bc (c_X4_whiteouts_N lc mc bc N G x) G e := by
  have hN : HiE N N := HiE.rf
  have hG : HiE G G := HiE.rf
  have hM := (J_MI J).hi hN hG
  have hR := (J_R J).hi J.2.1 hN hG
  have ht : TO N (c_X4_whiteouts_N lc mc bc N G x) := (by unfold c_X4_whiteouts_N; exact to_if (to_t) (to_t))
  exact ⟨hM, J_ms J (J.2.2.2.2.1) (RS.to hM ht) (t3_same hR ht)⟩
theorem sj_bytes (J : mt_J lc mc bc N G e) (x : Int32) : MI N G ∧ mt_J lc mc bc (c_X4_bytes_N lc mc bc N G x) G e := by
  have hN : HiE N N := HiE.rf
  have hG : HiE G G := HiE.rf
  have hM := (J_MI J).hi hN hG
  have hR := (J_R J).hi J.2.1 hN hG
  have ht : TO N (c_X4_bytes_N lc mc bc N G x) := (by unfold c_X4_bytes_N; exact to_if (to_t) (to_t))
  exact ⟨hM, J_ms J (J.2.2.2.2.1) (RS.to hM ht) (t3_same hR ht)⟩
theorem sj_differences (J : mt_J lc mc bc N G e) (x : Int32) : MI N G ∧ mt_J lc mc bc (c_X4_differences_N lc mc bc N G x) G e := by
  have hN : HiE N N := HiE.rf
  have hG : HiE G G := HiE.rf
  have hM := (J_MI J).hi hN hG
  have hR := (J_R J).hi J.2.1 hN hG
  have ht : TO N (c_X4_differences_N lc mc bc N G x) := (by unfold c_X4_differences_N; exact to_if (to_t) (to_t))
  exact ⟨hM, J_ms J (J.2.2.2.2.1) (RS.to hM ht) (t3_same hR ht)⟩
theorem sj_shownShare (J : mt_J lc mc bc N G e) : MI N (c_X3_shownShare_G lc mc bc N G) ∧ mt_J lc mc bc (c_X4_shownShare_N lc mc bc N (c_X3_shownShare_G lc mc bc N G)) (c_X3_shownShare_G lc mc bc N G) e := by
  have hN : HiE N N := HiE.rf
  have hG : HiE G (c_X3_shownShare_G lc mc bc N G) := hi_shownShare J.1
  have hM := (J_MI J).hi hN hG
  have hR := (J_R J).hi J.2.1 hN hG
  have ht : TO N (c_X4_shownShare_N lc mc bc N (c_X3_shownShare_G lc mc bc N G)) := (by unfold c_X4_shownShare_N; exact to_if (to_t) (to_t))
  exact ⟨hM, J_ms J (J.2.2.2.2.1) (RS.to hM ht) (t3_shownShare J.1 J.2.1 hR ht)⟩
theorem sj_meanSize (J : mt_J lc mc bc N G e) (x : Int32) : MI N G ∧ mt_J lc mc bc (c_X4_meanSize_N lc mc bc N G x) G e := by
  have hN : HiE N N := HiE.rf
  have hG : HiE G G := HiE.rf
  have hM := (J_MI J).hi hN hG
  have hR := (J_R J).hi J.2.1 hN hG
  have ht : TO N (c_X4_meanSize_N lc mc bc N G x) := (by unfold c_X4_meanSize_N; exact to_if (to_t) (to_if (to_t) (to_t)))
  exact ⟨hM, J_ms J (J.2.2.2.2.1) (RS.to hM ht) (t3_same hR ht)⟩
theorem sc_meanSize_l (J : mt_J lc mc bc N G e) (x : Int32) {E : String} (hq : c_X3_meanSize lc mc bc N G x = .inl E) : c_X4_thrown lc mc bc (c_X4_meanSize_N lc mc bc N G x) G = (scase (c_X3_meanSize lc mc bc N G x) (fun E => if E = "java/lang/IndexOutOfBoundsException" then 1 else if E = "java/lang/ArithmeticException" then 2 else 0) (fun _ => 0)) ∧ ¬ (scase (c_X3_meanSize lc mc bc N G x) (fun E => if E = "java/lang/IndexOutOfBoundsException" then 1 else if E = "java/lang/ArithmeticException" then 2 else 0) (fun _ => 0) : Int32) = 0 := by
  have hN : HiE N N := HiE.rf
  have hG : HiE G G := HiE.rf
  have hM := (J_MI J).hi hN hG
  have hR := (J_R J).hi J.2.1 hN hG
  rcases q_meanSize (a1 := lc) (a2 := mc) (a3 := bc) (x := x) hR hM with ⟨w, q1, -⟩ | ⟨u, q1, q3⟩
  · rw [hq] at q1; cases q1
  · rcases q1 with ⟨rfl, q1⟩ | ⟨rfl, q1⟩ <;> (rw [hq] at q1; cases q1; rw [hq]; exact ⟨q3, by decide⟩)
theorem sc_meanSize_r (J : mt_J lc mc bc N G e) (x : Int32) {x0 : UInt64} (hq : c_X3_meanSize lc mc bc N G x = .inr x0) : c_X4_thrown lc mc bc (c_X4_meanSize_N lc mc bc N G x) G = (scase (c_X3_meanSize lc mc bc N G x) (fun E => if E = "java/lang/IndexOutOfBoundsException" then 1 else if E = "java/lang/ArithmeticException" then 2 else 0) (fun _ => 0)) ∧ (scase (c_X3_meanSize lc mc bc N G x) (fun E => if E = "java/lang/IndexOutOfBoundsException" then 1 else if E = "java/lang/ArithmeticException" then 2 else 0) (fun _ => 0) : Int32) = 0 ∧ x0 = (c_X4_meanSize lc mc bc N G x) := by
  have hN : HiE N N := HiE.rf
  have hG : HiE G G := HiE.rf
  have hM := (J_MI J).hi hN hG
  have hR := (J_R J).hi J.2.1 hN hG
  rcases q_meanSize (a1 := lc) (a2 := mc) (a3 := bc) (x := x) hR hM with ⟨w, q1, q2, q3⟩ | ⟨u, q1, -⟩
  · rw [hq] at q1; cases q1
    rw [hq]; exact ⟨q3, rfl, q2.symm⟩
  · rcases q1 with ⟨-, q1⟩ | ⟨-, q1⟩ <;> (rw [hq] at q1; cases q1)
end SJ
theorem dc_d {d1 : Nat → UInt64} {x y : UInt64} (h : x = y) (hn : FP.Core.dIsNaN x = false) : Op.cmpValue (FP.dcmp ((va_up d1 0 x) (0 : Int32).toNatClampNeg) y) .l = 0 := by
  subst h
  rw [show (va_up d1 0 x) (0 : Int32).toNatClampNeg = x from rfl, show FP.dcmp x x = some .eq from FP.Core.dcmp_self ((FP.Core.notNaN_iff x).mp hn)]
  rfl
theorem dc_f {d1 : Nat → UInt64} {x y : UInt32} (h : x = y) (hn : FP.Core.dIsNaN (FP.f2d x) = false) : Op.cmpValue (FP.dcmp ((va_up d1 0 (FP.f2d x)) (0 : Int32).toNatClampNeg) (FP.f2d y)) .l = 0 := by
  subst h; exact dc_d rfl hn
theorem sd_n {lc mc bc : Nat} {N G : Nat → Nat → Int32} {x : UInt32} (h : c_X3_shownShare lc mc bc N G = .inr x) : FP.Core.dIsNaN (FP.f2d x) = false := by
  unfold c_X3_shownShare at h
  by_cases h1 : c_X3_allBytes lc mc bc N G = 0
  · rw [if_pos h1] at h; cases h
  · rw [if_neg h1] at h; cases h
    rw [FP.f2d_core (fp_ff _ _ h1)]
    exact FP.Core.f2d_out (fp_ff _ _ h1)
theorem md_n {lc mc bc : Nat} {N G : Nat → Nat → Int32} {y : Int32} {x : UInt64} (h : c_X3_meanSize lc mc bc N G y = .inr x) : FP.Core.dIsNaN x = false := by
  unfold c_X3_meanSize at h
  cases e : c_X3_checkedLayer lc mc bc N G y with
  | inl E => rw [e] at h; cases h
  | inr i =>
    rw [e, scase_r rfl] at h
    by_cases h1 : c_X1_countOf lc mc bc N G i 1 = 0
    · rw [if_pos h1] at h; cases h
    · rw [if_neg h1] at h; cases h
      exact fp_dd _ _ h1

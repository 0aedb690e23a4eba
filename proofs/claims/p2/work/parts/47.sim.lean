/-! what holds between two rounds of the law -/
def mt_J (lc mc bc : Nat) (N G : Nat → Nat → Int32) (e : Nat → Option va_E) : Prop := lc ≤ 6 ∧ mc ≤ 8 ∧ bc ≤ 6 ∧ (∀ k, e k = none) ∧ Q01 mc N ∧ MI N G ∧ lc = lqN N
def mt_LC (pc0 : Nat) : Prop := ∀ (l : Launch) (_ : l.stackTraces = false) (p : Program) (e : Env) (s : State) (m : MethodId) (args : Array Value) (below : List Frame) (meth : Method) (c : Code) (w0 : Cond) (_ : CallFix p m c cL_law 9 s args (w0 :: mt_T) RL) (z : Nat) (g : mt_G) (_ : mt_C g z s) (b L : Nat) (xs : Nat → Int32) (_ : va_X b L xs s s.heap) (_ : b < s.heap.size) (_ : ¬ mt_A z b) (_ : L ≤ 2048) (Q : State → Prop)
  (ad : Nat → Nat) (lc mc bc : Nat) (N G : Nat → Nat → Int32) (o : Nat → Int64) (d : mt_D) (_ : mt_J lc mc bc N G d.2) (i : Nat) (_ : i + 4 ≤ L) (H : Heap) (locs : List Loc) (cells slots : Nat) (ls : Array Slot) (_ : cells + 16 ≤ 603072) (_ : slots + 5000 ≤ 7219306) (_ : mt_W g z (mt_wc g ad lc mc bc N G o d) ad H) (_ : va_S (mt_A z) s.heap H locs) (_ : lv_has ls 9 [(0, .ref b), (1, .ref (ad 0)), (2, .ref (ad 200)), (3, .ref (ad 300)), (4, .ref (ad 301)), (5, .int (nI i))])
  (_ : ∀ (H1 : Heap) (locs1 : List Loc) (ls1 : Array Slot) (a1 : Nat → Nat) (lc1 mc1 bc1 : Nat) (N1 G1 : Nat → Nat → Int32) (o1 : Nat → Int64) (d1 : mt_D), mt_J lc1 mc1 bc1 N1 G1 d1.2 → mt_W g z (mt_wc g a1 lc1 mc1 bc1 N1 G1 o1 d1) a1 H1 → va_S (mt_A z) s.heap H1 locs1 → lv_has ls1 9 [(0, .ref b), (1, .ref (a1 0)), (2, .ref (a1 200)), (3, .ref (a1 300)), (4, .ref (a1 301)), (5, .int (nI i))] → W p l e room_1 s m args below meth c H1 locs1 (cells + 8) (slots + 2100) Q (F0 m 1025 ls1 [])),
  W p l e room_1 s m args below meth c H locs cells slots Q (F0 m pc0 ls [])
theorem lc_eq {o : Nat → Int64} {x y : Int32} (h : x = y) : lg_cmp ((vp_updL o 0 x.toInt64) (0 : Int32).toNatClampNeg) y.toInt64 = 0 := by
  subst h
  rw [show (vp_updL o 0 x.toInt64) (0 : Int32).toNatClampNeg = x.toInt64 from rfl]
  simp [lg_cmp]
section SJ
variable {lc mc bc : Nat} {N G N1 G1 : Nat → Nat → Int32} {e : Nat → Option va_E}
theorem J_cls (J : mt_J lc mc bc N G e) (hN : HiE N N1) (hG : HiE G G1) (hq : Q01 mc N1) : mt_J lc mc bc N1 G1 e :=
  ⟨J.1, J.2.1, J.2.2.1, J.2.2.2.1, hq, J.2.2.2.2.2.1.hi hN hG, by rw [J.2.2.2.2.2.2]; unfold lqN; rw [hN 200 3 (by omega)]⟩
theorem J_ref (J : mt_J lc mc bc N G e) (h : RS N G N1 G1) : mt_J lc mc bc N1 G1 e :=
  ⟨J.1, J.2.1, J.2.2.1, J.2.2.2.1, q01_lo J.2.2.2.2.1 J.2.1 h.2.1, h.1, by rw [J.2.2.2.2.2.2]; unfold lqN; rw [h.2.2.2]⟩
theorem J_MI (J : mt_J lc mc bc N G e) : MI N G := J.2.2.2.2.2.1
theorem sj_unmount (J : mt_J lc mc bc N G e) (x : Int32) : MI (c_X3_unmount_N lc mc bc N G x) (c_X3_unmount_G lc mc bc N G x) ∧ mt_J lc mc bc (c_X4_unmount_N lc mc bc (c_X3_unmount_N lc mc bc N G x) (c_X3_unmount_G lc mc bc N G x) x) (c_X4_unmount_G lc mc bc (c_X3_unmount_N lc mc bc N G x) (c_X3_unmount_G lc mc bc N G x) x) e := by
  have hJ := J_cls J (N1 := (c_X3_unmount_N lc mc bc N G x)) (G1 := (c_X3_unmount_G lc mc bc N G x)) (hi_unmountN J.2.1) (hi_unmount) (q01_unmount J.2.2.2.2.1 J.2.1)
  have hM := J_MI hJ
  exact ⟨hM, J_ref hJ (rs_unmount hM)⟩
theorem sj_move (J : mt_J lc mc bc N G e) (x : Int32) (y : Int32) : MI (c_X3_move_N lc mc bc N G x y) (c_X3_move_G lc mc bc N G x y) ∧ mt_J lc mc bc (c_X4_move_N lc mc bc (c_X3_move_N lc mc bc N G x y) (c_X3_move_G lc mc bc N G x y) x y) (c_X4_move_G lc mc bc (c_X3_move_N lc mc bc N G x y) (c_X3_move_G lc mc bc N G x y) x y) e := by
  have hJ := J_cls J (N1 := (c_X3_move_N lc mc bc N G x y)) (G1 := (c_X3_move_G lc mc bc N G x y)) (hi_moveN J.2.1) (hi_move) (q01_move J.2.2.2.2.1 J.2.1)
  have hM := J_MI hJ
  exact ⟨hM, J_ref hJ (rs_move hM)⟩
theorem sj_setCrossing (J : mt_J lc mc bc N G e) (x : Int32) (b : Int32) (b01 : b = 0 ∨ b = 1) : MI (c_X3_setCrossing_N lc mc bc N G x b) G ∧ mt_J lc mc bc (c_X4_setCrossing_N lc mc bc (c_X3_setCrossing_N lc mc bc N G x b) G x b) (c_X4_setCrossing_G lc mc bc (c_X3_setCrossing_N lc mc bc N G x b) G x b) e := by
  have hJ := J_cls J (N1 := (c_X3_setCrossing_N lc mc bc N G x b)) (G1 := G) (hi_setCrossingN J.2.1) (HiE.rf) (q01_setCrossing J.2.2.2.2.1 b01)
  have hM := J_MI hJ
  exact ⟨hM, J_ref hJ (rs_setCrossing hM b01)⟩
theorem sj_served (J : mt_J lc mc bc N G e) (x : Int32) : MI N G ∧ mt_J lc mc bc (c_X4_served_N lc mc bc N G x) G e := by
  have hJ := J_cls J (N1 := N) (G1 := G) (HiE.rf) (HiE.rf) (J.2.2.2.2.1)
  have hM := J_MI hJ
  exact ⟨hM, J_ref hJ (by unfold c_X4_served_N; exact rs_if (RS_t hM) (rs_if (RS_t hM) (RS_t hM)))⟩
theorem sj_covered (J : mt_J lc mc bc N G e) : MI N G ∧ mt_J lc mc bc (c_X4_covered_N lc mc bc N G) G e := by
  have hJ := J_cls J (N1 := N) (G1 := G) (HiE.rf) (HiE.rf) (J.2.2.2.2.1)
  have hM := J_MI hJ
  exact ⟨hM, J_ref hJ (by unfold c_X4_covered_N; exact RS_t hM)⟩
theorem sj_write (J : mt_J lc mc bc N G e) (x : Int32) (y : Int32) (v : Int32) : MI (c_X3_write_N lc mc bc N G x y v) (c_X3_write_G lc mc bc N G x y v) ∧ mt_J lc mc bc (c_X4_write_N lc mc bc (c_X3_write_N lc mc bc N G x y v) (c_X3_write_G lc mc bc N G x y v) x y v) (c_X4_write_G lc mc bc (c_X3_write_N lc mc bc N G x y v) (c_X3_write_G lc mc bc N G x y v) x y v) e := by
  have hJ := J_cls J (N1 := (c_X3_write_N lc mc bc N G x y v)) (G1 := (c_X3_write_G lc mc bc N G x y v)) (hi_writeN) (hi_write J.1) (q01_write J.2.2.2.2.1 J.2.1)
  have hM := J_MI hJ
  exact ⟨hM, J_ref hJ (rs_write hM)⟩
theorem sj_link (J : mt_J lc mc bc N G e) (x : Int32) (y : Int32) (v : Int32) : MI (c_X3_link_N lc mc bc N G x y v) (c_X3_link_G lc mc bc N G x y v) ∧ mt_J lc mc bc (c_X4_link_N lc mc bc (c_X3_link_N lc mc bc N G x y v) (c_X3_link_G lc mc bc N G x y v) x y v) (c_X4_link_G lc mc bc (c_X3_link_N lc mc bc N G x y v) (c_X3_link_G lc mc bc N G x y v) x y v) e := by
  have hJ := J_cls J (N1 := (c_X3_link_N lc mc bc N G x y v)) (G1 := (c_X3_link_G lc mc bc N G x y v)) (hi_linkN) (hi_link J.1) (q01_link J.2.2.2.2.1 J.2.1)
  have hM := J_MI hJ
  exact ⟨hM, J_ref hJ (rs_link hM)⟩
theorem sj_remove (J : mt_J lc mc bc N G e) (x : Int32) : MI N (c_X3_remove_G lc mc bc N G x) ∧ mt_J lc mc bc (c_X4_remove_N lc mc bc N (c_X3_remove_G lc mc bc N G x) x) (c_X4_remove_G lc mc bc N (c_X3_remove_G lc mc bc N G x) x) e := by
  have hJ := J_cls J (N1 := N) (G1 := (c_X3_remove_G lc mc bc N G x)) (HiE.rf) (hi_remove J.1) (J.2.2.2.2.1)
  have hM := J_MI hJ
  exact ⟨hM, J_ref hJ (rs_remove hM)⟩
theorem sj_shows (J : mt_J lc mc bc N G e) (x : Int32) : MI N G ∧ mt_J lc mc bc (c_X4_shows_N lc mc bc N G x) G e := by
  have hJ := J_cls J (N1 := N) (G1 := G) (HiE.rf) (HiE.rf) (J.2.2.2.2.1)
  have hM := J_MI hJ
  exact ⟨hM, J_ref hJ (by unfold c_X4_shows_N; exact rs_if (RS_t hM) (rs_if (RS_t hM) (rs_if (RS_t hM) (RS_t hM))))⟩
theorem sj_layerOf (J : mt_J lc mc bc N G e) (x : Int32) : MI N G ∧ mt_J lc mc bc (c_X4_layerOf_N lc mc bc N G x) G e := by
  have hJ := J_cls J (N1 := N) (G1 := G) (HiE.rf) (HiE.rf) (J.2.2.2.2.1)
  have hM := J_MI hJ
  exact ⟨hM, J_ref hJ (by unfold c_X4_layerOf_N; exact rs_if (RS_t hM) (rs_if (RS_t hM) (RS_t hM)))⟩
theorem sj_end (J : mt_J lc mc bc N G e) (x : Int32) : MI N G ∧ mt_J lc mc bc (mt_gu N 200 15 (en_r lc mc bc N G x).2) G e := by
  have hJ := J_cls J (N1 := N) (G1 := G) (HiE.rf) (HiE.rf) (J.2.2.2.2.1)
  have hM := J_MI hJ
  exact ⟨hM, J_ref hJ (RS_t hM)⟩
theorem sj_size (J : mt_J lc mc bc N G e) (x : Int32) : MI N G ∧ mt_J lc mc bc (c_X4_size_N lc mc bc N G x) G e := by
  have hJ := J_cls J (N1 := N) (G1 := G) (HiE.rf) (HiE.rf) (J.2.2.2.2.1)
  have hM := J_MI hJ
  exact ⟨hM, J_ref hJ (by unfold c_X4_size_N; exact rs_if (rs_if (RS_t hM) (RS_t hM)) (RS_t hM))⟩
theorem sj_sizeByWalking (J : mt_J lc mc bc N G e) (x : Int32) : MI N G ∧ mt_J lc mc bc (c_X4_sizeByWalking_N lc mc bc N G x) G e := by
  have hJ := J_cls J (N1 := N) (G1 := G) (HiE.rf) (HiE.rf) (J.2.2.2.2.1)
  have hM := J_MI hJ
  exact ⟨hM, J_ref hJ (by unfold c_X4_sizeByWalking_N; exact rs_if (RS_t hM) (rs_if (RS_t hM) (rs_if (RS_t hM) (RS_t hM))))⟩
theorem sj_ownerOf (J : mt_J lc mc bc N G e) (x : Int32) : MI N G ∧ mt_J lc mc bc (c_X4_ownerOf_N lc mc bc N G x) G e := by
  have hJ := J_cls J (N1 := N) (G1 := G) (HiE.rf) (HiE.rf) (J.2.2.2.2.1)
  have hM := J_MI hJ
  exact ⟨hM, J_ref hJ (by unfold c_X4_ownerOf_N; exact rs_if (RS_t hM) (rs_if (RS_t hM) (RS_t hM)))⟩
theorem sj_setQuota (J : mt_J lc mc bc N G e) (x : Int32) (y : Int32) : MI N (c_X3_setQuota_G lc mc bc N G x y) ∧ mt_J lc mc bc (c_X4_setQuota_N lc mc bc N (c_X3_setQuota_G lc mc bc N G x y) x y) (c_X4_setQuota_G lc mc bc N (c_X3_setQuota_G lc mc bc N G x y) x y) e := by
  have hJ := J_cls J (N1 := N) (G1 := (c_X3_setQuota_G lc mc bc N G x y)) (HiE.rf) (hi_setQuota) (J.2.2.2.2.1)
  have hM := J_MI hJ
  exact ⟨hM, J_ref hJ (rs_setQuota hM)⟩
theorem sj_used (J : mt_J lc mc bc N G e) (x : Int32) : MI N G ∧ mt_J lc mc bc (c_X4_used__N lc mc bc N G x) G e := by
  have hJ := J_cls J (N1 := N) (G1 := G) (HiE.rf) (HiE.rf) (J.2.2.2.2.1)
  have hM := J_MI hJ
  exact ⟨hM, J_ref hJ (by unfold c_X4_used__N; exact rs_if (RS_t hM) (RS_t hM))⟩
theorem sj_usedByLayers (J : mt_J lc mc bc N G e) (x : Int32) : MI N G ∧ mt_J lc mc bc (c_X4_usedByLayers_N lc mc bc N G x) G e := by
  have hJ := J_cls J (N1 := N) (G1 := G) (HiE.rf) (HiE.rf) (J.2.2.2.2.1)
  have hM := J_MI hJ
  exact ⟨hM, J_ref hJ (by unfold c_X4_usedByLayers_N; exact (by unfold c_X4_used__N; exact rs_if (RS_t hM) (RS_t hM)))⟩
theorem sj_hidden (J : mt_J lc mc bc N G e) : MI N (c_X3_hidden_G lc mc bc N G) ∧ mt_J lc mc bc (c_X4_hidden_N lc mc bc N (c_X3_hidden_G lc mc bc N G)) (c_X3_hidden_G lc mc bc N G) e := by
  have hJ := J_cls J (N1 := N) (G1 := (c_X3_hidden_G lc mc bc N G)) (HiE.rf) (hi_hidden J.1) (J.2.2.2.2.1)
  have hM := J_MI hJ
  exact ⟨hM, J_ref hJ (by unfold c_X4_hidden_N; exact RS_t hM)⟩
theorem sj_copies (J : mt_J lc mc bc N G e) : MI N G ∧ mt_J lc mc bc (c_X4_copies_N lc mc bc N G) G e := by
  have hJ := J_cls J (N1 := N) (G1 := G) (HiE.rf) (HiE.rf) (J.2.2.2.2.1)
  have hM := J_MI hJ
  exact ⟨hM, J_ref hJ (by unfold c_X4_copies_N; exact RS_t hM)⟩
theorem sj_whiteouts (J : mt_J lc mc bc N G e) (x : Int32) : MI N G ∧ mt_J lc mc bc (c_X4_whiteouts_N lc mc bc N G x) G e := by
  have hJ := J_cls J (N1 := N) (G1 := G) (HiE.rf) (HiE.rf) (J.2.2.2.2.1)
  have hM := J_MI hJ
  exact ⟨hM, J_ref hJ (by unfold c_X4_whiteouts_N; exact rs_if (RS_t hM) (RS_t hM))⟩
theorem sj_bytes (J : mt_J lc mc bc N G e) (x : Int32) : MI N G ∧ mt_J lc mc bc (c_X4_bytes_N lc mc bc N G x) G e := by
  have hJ := J_cls J (N1 := N) (G1 := G) (HiE.rf) (HiE.rf) (J.2.2.2.2.1)
  have hM := J_MI hJ
  exact ⟨hM, J_ref hJ (by unfold c_X4_bytes_N; exact rs_if (RS_t hM) (RS_t hM))⟩
theorem sj_differences (J : mt_J lc mc bc N G e) (x : Int32) : MI N G ∧ mt_J lc mc bc (c_X4_differences_N lc mc bc N G x) G e := by
  have hJ := J_cls J (N1 := N) (G1 := G) (HiE.rf) (HiE.rf) (J.2.2.2.2.1)
  have hM := J_MI hJ
  exact ⟨hM, J_ref hJ (by unfold c_X4_differences_N; exact rs_if (RS_t hM) (RS_t hM))⟩
theorem sj_shownShare (J : mt_J lc mc bc N G e) : MI N (c_X3_shownShare_G lc mc bc N G) ∧ mt_J lc mc bc (c_X4_shownShare_N lc mc bc N (c_X3_shownShare_G lc mc bc N G)) (c_X3_shownShare_G lc mc bc N G) e := by
  have hJ := J_cls J (N1 := N) (G1 := (c_X3_shownShare_G lc mc bc N G)) (HiE.rf) (hi_shownShare J.1) (J.2.2.2.2.1)
  have hM := J_MI hJ
  exact ⟨hM, J_ref hJ (by unfold c_X4_shownShare_N; exact rs_if (RS_t hM) (RS_t hM))⟩
theorem sj_meanSize (J : mt_J lc mc bc N G e) (x : Int32) : MI N G ∧ mt_J lc mc bc (c_X4_meanSize_N lc mc bc N G x) G e := by
  have hJ := J_cls J (N1 := N) (G1 := G) (HiE.rf) (HiE.rf) (J.2.2.2.2.1)
  have hM := J_MI hJ
  exact ⟨hM, J_ref hJ (by unfold c_X4_meanSize_N; exact rs_if (RS_t hM) (rs_if (RS_t hM) (RS_t hM)))⟩
theorem nI_lt6 {n : Nat} (hn : n ≤ 8) (h : nI n < 6) : n < 6 := by
  rcases Nat.lt_or_ge n 6 with q | q
  · exact q
  · exact absurd h (by rcases (show n = 6 ∨ n = 7 ∨ n = 8 by omega) with rfl | rfl | rfl <;> decide)
theorem nI_lt8 {n : Nat} (hn : n ≤ 8) (h : nI n < 8) : n < 8 := by
  rcases Nat.lt_or_ge n 8 with q | q
  · exact q
  · exact absurd h (by rw [show n = 8 by omega]; decide)
theorem add_l (h6 : lc ≤ 6) {E : String} (hq : c_X3_addLayer lc mc bc N G = .inl E) : lc = 6 ∧ E = "java/lang/IllegalStateException" := by
  unfold c_X3_addLayer at hq
  rw [if_neg (nI_pos (by omega))] at hq
  by_cases c : nI lc < 6
  · rw [if_pos c] at hq; cases hq
  · rw [if_neg c] at hq; cases hq
    refine ⟨?_, rfl⟩
    rcases Nat.lt_or_ge lc 6 with q | q
    · exact absurd (nI_lt q (by decide)) c
    · omega
theorem add_r (h6 : lc ≤ 6) {x : Int32} (hq : c_X3_addLayer lc mc bc N G = .inr x) : lc < 6 ∧ x = nI lc := by
  unfold c_X3_addLayer at hq
  rw [if_neg (nI_pos (by omega))] at hq
  by_cases c : nI lc < 6
  · rw [if_pos c] at hq; cases hq; exact ⟨nI_lt6 (by omega) c, rfl⟩
  · rw [if_neg c] at hq; cases hq
theorem bak_r (h6 : bc ≤ 6) {x x0 : Int32} (hq : c_X3_backUp lc mc bc N G x = .inr x0) : bc < 6 ∧ x0 = nI bc := by
  unfold c_X3_backUp at hq
  rw [if_neg (nI_pos (by omega))] at hq
  by_cases c : nI bc < 6
  · rw [if_pos c] at hq; cases hq; exact ⟨nI_lt6 (by omega) c, rfl⟩
  · rw [if_neg c] at hq; cases hq
theorem mnt_r (h8 : mc ≤ 8) {x y v x0 : Int32} (hq : c_X3_mount lc mc bc N G x y v = .inr x0) : mc < 8 ∧ x0 = nI mc := by
  have key : ∀ {A : String ⊕ Int32}, A = (if nI mc < 0 then .inl "java/lang/IllegalStateException" else (if nI mc < 8 then .inr (nI mc) else .inl "java/lang/IllegalStateException")) → A = .inr x0 → mc < 8 ∧ x0 = nI mc := by
    intro A h1 h2
    rw [h1, if_neg (nI_pos (by omega))] at h2
    by_cases c : nI mc < 8
    · rw [if_pos c] at h2; cases h2; exact ⟨nI_lt8 h8 c, rfl⟩
    · rw [if_neg c] at h2; cases h2
  revert hq
  unfold c_X3_mount
  exact P_if (P := fun A : String ⊕ Int32 => A = .inr x0 → mc < 8 ∧ x0 = nI mc) (fun _ => P_if (P := fun A : String ⊕ Int32 => A = .inr x0 → mc < 8 ∧ x0 = nI mc) (fun _ h => by cases h) (fun _ => P_oc (P := fun A : String ⊕ Int32 => A = .inr x0 → mc < 8 ∧ x0 = nI mc) (fun _ h => by cases h) (fun _ _ => P_if (P := fun A : String ⊕ Int32 => A = .inr x0 → mc < 8 ∧ x0 = nI mc) (fun _ => key rfl) (fun _ h => by cases h))))
    (fun _ => P_if (P := fun A : String ⊕ Int32 => A = .inr x0 → mc < 8 ∧ x0 = nI mc) (fun _ h => by cases h) (fun _ => P_if (P := fun A : String ⊕ Int32 => A = .inr x0 → mc < 8 ∧ x0 = nI mc) (fun _ h => by cases h) (fun _ => P_oc (P := fun A : String ⊕ Int32 => A = .inr x0 → mc < 8 ∧ x0 = nI mc) (fun _ h => by cases h) (fun _ _ => P_oc (P := fun A : String ⊕ Int32 => A = .inr x0 → mc < 8 ∧ x0 = nI mc) (fun _ h => by cases h) (fun _ _ => P_if (P := fun A : String ⊕ Int32 => A = .inr x0 → mc < 8 ∧ x0 = nI mc) (fun _ => P_if (P := fun A : String ⊕ Int32 => A = .inr x0 → mc < 8 ∧ x0 = nI mc) (fun _ => key rfl) (fun _ h => by cases h)) (fun _ h => by cases h))))))
theorem sj_addLayer_l (J : mt_J lc mc bc N G e) {E : String} (hq : c_X3_addLayer lc mc bc N G = .inl E) : MI N G ∧ mt_J lc mc bc (c_X4_addLayer_N lc mc bc N G) G e := by
  obtain ⟨h1, -⟩ := add_l J.1 hq
  have hM := (J_MI J)
  obtain ⟨r1, r2, r3⟩ := ad_r (lc := lc) (mc := mc) (bc := bc) hM
  have h0 := J.2.2.2.2.2.2
  exact ⟨hM, J.1, J.2.1, J.2.2.1, J.2.2.2.1, q01_lo J.2.2.2.2.1 J.2.1 r2, r1, by rw [r3, if_pos (by omega)]; omega⟩
theorem sj_addLayer_r (J : mt_J lc mc bc N G e) {x : Int32} (hq : c_X3_addLayer lc mc bc N G = .inr x) : MI N (mt_g0 G lc) ∧ mt_J (lc + 1) mc bc (c_X4_addLayer_N (lc + 1) mc bc N (mt_g0 G lc)) (mt_g0 G lc) e := by
  obtain ⟨h1, -⟩ := add_r J.1 hq
  have hM := (J_MI J).hi HiE.rf (hi_g0 J.1)
  obtain ⟨r1, r2, r3⟩ := ad_r (lc := lc + 1) (mc := mc) (bc := bc) hM
  have h0 := J.2.2.2.2.2.2
  exact ⟨hM, by omega, J.2.1, J.2.2.1, J.2.2.2.1, q01_lo J.2.2.2.2.1 J.2.1 r2, r1, by rw [r3, if_neg (by omega)]; omega⟩
theorem sc_addLayer_l (J : mt_J lc mc bc N G e) {E : String} (hq : c_X3_addLayer lc mc bc N G = .inl E) : (c_X4_thrown lc mc bc (c_X4_addLayer_N lc mc bc N G) G) = (scase (c_X3_addLayer lc mc bc N G) (fun E => if E = "java/lang/IllegalStateException" then 1 else 0) (fun _ => 0)) ∧ ¬ (scase (c_X3_addLayer lc mc bc N G) (fun E => if E = "java/lang/IllegalStateException" then 1 else 0) (fun _ => 0) : Int32) = 0 := by
  obtain ⟨h1, rfl⟩ := add_l J.1 hq
  rw [hq]
  have h4 : N 200 3 = 6 := by rw [(J_MI J).2.2.2.1, ← J.2.2.2.2.2.2, h1]; rfl
  refine ⟨?_, by decide⟩
  unfold c_X4_thrown c_X4_addLayer_N
  rw [if_pos h4]; rfl
theorem sc_addLayer_r (J : mt_J lc mc bc N G e) {x : Int32} (hq : c_X3_addLayer lc mc bc N G = .inr x) : (c_X4_thrown (lc + 1) mc bc (c_X4_addLayer_N (lc + 1) mc bc N (mt_g0 G lc)) (mt_g0 G lc)) = (scase (c_X3_addLayer lc mc bc N G) (fun E => if E = "java/lang/IllegalStateException" then 1 else 0) (fun _ => 0)) ∧ (scase (c_X3_addLayer lc mc bc N G) (fun E => if E = "java/lang/IllegalStateException" then 1 else 0) (fun _ => 0) : Int32) = 0 ∧ x = c_X4_addLayer (lc + 1) mc bc N (mt_g0 G lc) := by
  obtain ⟨h1, rfl⟩ := add_r J.1 hq
  rw [hq]
  have h3 : N 200 3 = nI lc := by rw [(J_MI J).2.2.2.1, ← J.2.2.2.2.2.2]
  have h4 : ¬ N 200 3 = 6 := by rw [h3]; intro q; have := (nI_eq (b := 6) (by omega) (by decide)).mp q; omega
  refine ⟨?_, rfl, ?_⟩
  · unfold c_X4_thrown c_X4_addLayer_N
    rw [if_neg h4]; rfl
  · unfold c_X4_addLayer
    rw [if_neg h4, h3, nI_1, nI_pred]
theorem sj_mount_l (J : mt_J lc mc bc N G e) (x y v : Int32) {E : String} (hq : c_X3_mount lc mc bc N G x y v = .inl E) : MI N G ∧ mt_J lc mc bc (c_X4_mount_N lc mc bc N G x y v) (c_X4_mount_G lc mc bc N G x y v) e := ⟨(J_MI J), J_ref J (rs_mount (J_MI J))⟩
theorem sj_mount_r (J : mt_J lc mc bc N G e) (x y v : Int32) {x0 : Int32} (hq : c_X3_mount lc mc bc N G x y v = .inr x0) : MI (mt_nm N mc x y v) (c_X3_serveAgain_G lc (mc + 1) bc (mt_nm N mc x y v) G) ∧ mt_J lc (mc + 1) bc (c_X4_mount_N lc (mc + 1) bc (mt_nm N mc x y v) (c_X3_serveAgain_G lc (mc + 1) bc (mt_nm N mc x y v) G) x y v) (c_X4_mount_G lc (mc + 1) bc (mt_nm N mc x y v) (c_X3_serveAgain_G lc (mc + 1) bc (mt_nm N mc x y v) G) x y v) e := by
  obtain ⟨h1, -⟩ := mnt_r J.2.1 hq
  have hJ : mt_J lc (mc + 1) bc (mt_nm N mc x y v) (c_X3_serveAgain_G lc (mc + 1) bc (mt_nm N mc x y v) G) e := ⟨J.1, by omega, J.2.2.1, J.2.2.2.1, q01_nm J.2.2.2.2.1, (J_MI J).hi (hi_nm J.2.1) hi_serveAgain, by rw [J.2.2.2.2.2.2]; unfold lqN; rw [hi_nm J.2.1 200 3 (by omega)]⟩
  have hM := J_MI hJ
  exact ⟨hM, J_ref hJ (rs_mount hM)⟩
theorem sj_backUp_l (J : mt_J lc mc bc N G e) (x : Int32) (b01 : x = 0 ∨ x = 1) {E : String} (hq : c_X3_backUp lc mc bc N G x = .inl E) : MI N G ∧ mt_J lc mc bc (c_X4_backUp_N lc mc bc N G x) (c_X4_backUp_G lc mc bc N G x) e := ⟨(J_MI J), J_ref J (rs_backUp (J_MI J) b01)⟩
theorem sj_backUp_r (J : mt_J lc mc bc N G e) (x : Int32) (b01 : x = 0 ∨ x = 1) {x0 : Int32} (hq : c_X3_backUp lc mc bc N G x = .inr x0) : MI (mt_nb N bc x) (mt_gb G bc (fun j => if j < c_bn x then c_X3_sizeNow lc mc bc N G x (nI j) else 0)) ∧ mt_J lc mc (bc + 1) (c_X4_backUp_N lc mc (bc + 1) (mt_nb N bc x) (mt_gb G bc (fun j => if j < c_bn x then c_X3_sizeNow lc mc bc N G x (nI j) else 0)) x) (c_X4_backUp_G lc mc (bc + 1) (mt_nb N bc x) (mt_gb G bc (fun j => if j < c_bn x then c_X3_sizeNow lc mc bc N G x (nI j) else 0)) x) e := by
  obtain ⟨h1, -⟩ := bak_r J.2.2.1 hq
  have hJ : mt_J lc mc (bc + 1) (mt_nb N bc x) (mt_gb G bc (fun j => if j < c_bn x then c_X3_sizeNow lc mc bc N G x (nI j) else 0)) e := ⟨J.1, J.2.1, by omega, J.2.2.2.1, q01_nb J.2.2.2.2.1 J.2.1, (J_MI J).hi (hi_nb J.2.2.1) (hi_gb J.2.2.1), by rw [J.2.2.2.2.2.2]; unfold lqN; rw [hi_nb J.2.2.1 200 3 (by omega)]⟩
  have hM := J_MI hJ
  exact ⟨hM, J_ref hJ (rs_backUp hM b01)⟩
end SJ

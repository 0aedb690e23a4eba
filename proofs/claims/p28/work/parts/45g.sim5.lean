/-! the second relation: with the rows of who serves what -/
section SE
variable {lc mc bc a1 a2 a3 : Nat} {N G N1 G1 N' G' N2 G2 : Nat → Nat → Int32} {x y v k w b : Int32}
def R2 (lc mc bc : Nat) (N G N' G' : Nat → Nat → Int32) : Prop := R1 lc mc bc N G N' G' ∧ RV mc G G'
theorem R2.m8 (h : R2 lc mc bc N G N' G') (hM : MI N' G') : mc ≤ 8 := by rw [h.1.1.2.1]; exact hM.2.1
theorem R2.hi (h : R2 lc mc bc N G N' G') (h8 : mc ≤ 8) (hN : HiE N' N2) (hG : HiE G' G2) : R2 lc mc bc N G N2 G2 := ⟨h.1.hi hN hG, h.2.congr h8 (fun _ => rfl) (fun _ => rfl) (fun k _ => ⟨hG _ _ (by decide), hG _ _ (by decide)⟩)⟩
theorem R2.lo (h : R2 lc mc bc N G N' G') (h8 : mc ≤ 8) (hN : LoE N N1) (hG : LoE G G1) : R2 lc mc bc N1 G1 N' G' := ⟨h.1.lo h8 hN hG, h.2.congr h8 (fun _ => hG _ _ (by decide)) (fun _ => hG _ _ (by decide)) (fun k _ => ⟨rfl, rfl⟩)⟩
theorem t2_same (h : R2 lc mc bc N G N' G') (ht : TO N' N2) : R2 lc mc bc N G N2 G' := ⟨t1_same h.1 ht, h.2⟩
theorem t2_hidden (h6 : lc ≤ 6) (h8 : mc ≤ 8) (h : R2 lc mc bc N G N' G') (ht : TO N' N2) : R2 lc mc bc N (c_X3_hidden_G lc mc bc N G) N2 G' := ⟨t1_hidden h6 h.1 ht, h.2.congr h8 (fun j => sb_hidden h6 6 j (by omega)) (fun j => sb_hidden h6 7 j (by omega)) (fun _ _ => ⟨rfl, rfl⟩)⟩
theorem t2_shownShare (h6 : lc ≤ 6) (h8 : mc ≤ 8) (h : R2 lc mc bc N G N' G') (ht : TO N' N2) : R2 lc mc bc N (c_X3_shownShare_G lc mc bc N G) N2 G' := ⟨t1_shownShare h6 h.1 ht, h.2.congr h8 (fun j => sb_shownShare h6 6 j (by omega)) (fun j => sb_shownShare h6 7 j (by omega)) (fun _ _ => ⟨rfl, rfl⟩)⟩
theorem t2_write (h6 : lc ≤ 6) (h : R2 lc mc bc N G N' G') (hM : MI N' G') : R2 lc mc bc (c_X3_write_N lc mc bc N G x y v) (c_X3_write_G lc mc bc N G x y v) (c_X4_write_N a1 a2 a3 N' G' x y v) (c_X4_write_G a1 a2 a3 N' G' x y v) :=
  ⟨t1_write h6 h.1, h.2.congr (h.m8 hM) (fun j => sw_write h6 6 j (by omega)) (fun j => sw_write h6 7 j (by omega)) (fun k _ => ⟨rG_write _ _ (by omega), rG_write _ _ (by omega)⟩)⟩
theorem t2_link (h6 : lc ≤ 6) (h : R2 lc mc bc N G N' G') (hM : MI N' G') : R2 lc mc bc (c_X3_link_N lc mc bc N G x y v) (c_X3_link_G lc mc bc N G x y v) (c_X4_link_N a1 a2 a3 N' G' x y v) (c_X4_link_G a1 a2 a3 N' G' x y v) :=
  ⟨t1_link h6 h.1, h.2.congr (h.m8 hM) (fun j => sw_link h6 6 j (by omega)) (fun j => sw_link h6 7 j (by omega)) (fun k _ => ⟨rG_link _ _ (by omega), rG_link _ _ (by omega)⟩)⟩
theorem t2_remove (h6 : lc ≤ 6) (h : R2 lc mc bc N G N' G') (hM : MI N' G') : R2 lc mc bc N (c_X3_remove_G lc mc bc N G x) (c_X4_remove_N a1 a2 a3 N' G' x) (c_X4_remove_G a1 a2 a3 N' G' x) :=
  ⟨t1_remove h6 h.1, h.2.congr (h.m8 hM) (fun j => sw_remove h6 6 j (by omega)) (fun j => sw_remove h6 7 j (by omega)) (fun k _ => ⟨rG_remove _ _ (by omega), rG_remove _ _ (by omega)⟩)⟩
theorem t2_setCrossing (h : R2 lc mc bc N G N' G') (hM : MI N' G') : R2 lc mc bc (c_X3_setCrossing_N lc mc bc N G x b) G (c_X4_setCrossing_N a1 a2 a3 N' G' x b) (c_X4_setCrossing_G a1 a2 a3 N' G' x b) := by
  refine ⟨t1_setCrossing h.1 hM, ?_⟩
  rcases s_cross (lc := lc) (bc := bc) (G := G) (a1 := a1) (a2 := a2) (a3 := a3) (x := x) (b := b) hM h.1.1.2.1 h.1.2.1 with ⟨i, hi, -, -, -, e1, e2, e3⟩ | ⟨-, e1, e2, e3⟩
  · rw [e3]; exact h.2.congr (h.m8 hM) (fun _ => rfl) (fun _ => rfl) (fun k _ => ⟨gu_n (by decide), gu_n (by decide)⟩)
  · rw [e3]; exact h.2
theorem t2_move (h : R2 lc mc bc N G N' G') (hM : MI N' G') : R2 lc mc bc (c_X3_move_N lc mc bc N G x y) (c_X3_move_G lc mc bc N G x y) (c_X4_move_N a1 a2 a3 N' G' x y) (c_X4_move_G a1 a2 a3 N' G' x y) := by
  have h1 := t1_move (a1 := a1) (a2 := a2) (a3 := a3) (x := x) (y := y) h.1 hM
  have hs := rs_move (lc := a1) (mc := a2) (bc := a3) (x := x) (y := y) hM
  refine ⟨h1, ?_⟩
  have hp : ∀ k, k < mc → IsP (c_X4_move_G a1 a2 a3 N' G' x y 205 k) := fun k hk => MI_pt hs.1 (by rw [← h1.1.2.1]; exact hk)
  have hr := h1.2.1
  rcases s_move (lc := lc) (bc := bc) (G := G) (a1 := a1) (a2 := a2) (a3 := a3) (x := x) (y := y) hM h.1.1.2.1 h.1.2.1 with ⟨i, hi, -, -, -, -, e1, e4, e2, e3⟩ | ⟨u, -, e1, e4, e2, e3⟩
  · rw [e4]; rw [e1] at hr; exact sv_ok (h.m8 hM) hp hr
  · rw [e3, e4]; exact h.2
theorem t2_unmount (h : R2 lc mc bc N G N' G') (hM : MI N' G') : R2 lc mc bc (c_X3_unmount_N lc mc bc N G x) (c_X3_unmount_G lc mc bc N G x) (c_X4_unmount_N a1 a2 a3 N' G' x) (c_X4_unmount_G a1 a2 a3 N' G' x) := by
  have h1 := t1_unmount (a1 := a1) (a2 := a2) (a3 := a3) (x := x) h.1 hM
  have hs := rs_unmount (lc := a1) (mc := a2) (bc := a3) (x := x) hM
  refine ⟨h1, ?_⟩
  have hp : ∀ k, k < mc → IsP (c_X4_unmount_G a1 a2 a3 N' G' x 205 k) := fun k hk => MI_pt hs.1 (by rw [← h1.1.2.1]; exact hk)
  have hr := h1.2.1
  rcases s_unmount (lc := lc) (bc := bc) (G := G) (a1 := a1) (a2 := a2) (a3 := a3) (x := x) hM h.1.1.2.1 h.1.2.1 with ⟨i, hi, -, -, e1, e4, e2, e3⟩ | ⟨-, e1, e4, e2, e3⟩
  · rw [e4]; rw [e1] at hr; exact sv_ok (h.m8 hM) hp hr
  · rw [e3, e4]; exact h.2
theorem t2_setQuota (h : R2 lc mc bc N G N' G') (hM : MI N' G') : R2 lc mc bc N (c_X3_setQuota_G lc mc bc N G x y) (c_X4_setQuota_N a1 a2 a3 N' G' x y) (c_X4_setQuota_G a1 a2 a3 N' G' x y) := by
  refine ⟨t1_setQuota h.1, ?_⟩
  rcases s_quota (lc := lc) (mc := mc) (bc := bc) (N := N) (N' := N') (a1 := a1) (a2 := a2) (a3 := a3) (x := x) (y := y) h.1.2.2 with ⟨j, hj, -, -, e1, e2, e3⟩ | ⟨-, e1, e2, e3⟩
  · rw [e1, e3]; exact h.2.congr (h.m8 hM) (fun _ => gu_n (by decide)) (fun _ => gu_n (by decide)) (fun k _ => ⟨gu_n (by decide), gu_n (by decide)⟩)
  · rw [e1, e3]; exact h.2
theorem t2_mount_r (h : R2 lc mc bc N G N' G') (hM : MI N' G') {x0 : Int32} (hq : c_X3_mount lc mc bc N G x y v = .inr x0) : mc < 8 ∧ x0 = nI mc ∧ R2 lc (mc + 1) bc (mt_nm N mc x y v) (c_X3_serveAgain_G lc (mc + 1) bc (mt_nm N mc x y v) G) (c_X4_mount_N a1 a2 a3 N' G' x y v) (c_X4_mount_G a1 a2 a3 N' G' x y v) := by
  obtain ⟨h8, hx, h1⟩ := t1_mount_r (a1 := a1) (a2 := a2) (a3 := a3) h.1 hM hq
  have hs := rs_mount (lc := a1) (mc := a2) (bc := a3) (x := x) (y := y) (v := v) hM
  exact ⟨h8, hx, h1, sv_ok h8 (fun k hk => MI_pt hs.1 (by rw [← h1.1.2.1]; exact hk)) h1.2.1⟩
theorem t2_mount_l (h : R2 lc mc bc N G N' G') (hM : MI N' G') {E : String} (hq : c_X3_mount lc mc bc N G x y v = .inl E) : R2 lc mc bc N G (c_X4_mount_N a1 a2 a3 N' G' x y v) (c_X4_mount_G a1 a2 a3 N' G' x y v) := by
  refine ⟨t1_mount_l h.1 hM hq, ?_⟩
  rcases s_mount (lc := lc) (bc := bc) (G := G) (a1 := a1) (a2 := a2) (a3 := a3) (x := x) (y := y) (v := v) hM h.1.1.1 h.1.1.2.1 h.1.2.1 with ⟨-, -, -, hne, hlt, e0, e2, e3⟩ | ⟨-, ⟨u, e2⟩, e3⟩
  · rw [hq] at e0; cases e0
  · rw [e3]; exact h.2
theorem t2_addLayer_l (h : R2 lc mc bc N G N' G') (hM : MI N' G') {E : String} (hq : c_X3_addLayer lc mc bc N G = .inl E) : R2 lc mc bc N G (c_X4_addLayer_N a1 a2 a3 N' G') G' := ⟨t1_addLayer_l h.1 hM hq, h.2⟩
theorem t2_addLayer_r (h : R2 lc mc bc N G N' G') (hM : MI N' G') {x0 : Int32} (hq : c_X3_addLayer lc mc bc N G = .inr x0) : R2 (lc + 1) mc bc N (mt_g0 G lc) (c_X4_addLayer_N a1 a2 a3 N' G') G' :=
  ⟨t1_addLayer_r h.1 hM hq, h.2.congr (h.m8 hM) (fun _ => by unfold mt_g0; rw [if_neg (by omega)]) (fun _ => by unfold mt_g0; rw [if_neg (by omega)]) (fun _ _ => ⟨rfl, rfl⟩)⟩
theorem t2_backUp_l (h : R2 lc mc bc N G N' G') (hM : MI N' G') {E : String} (hq : c_X3_backUp lc mc bc N G x = .inl E) : R2 lc mc bc N G (c_X4_backUp_N a1 a2 a3 N' G' x) (c_X4_backUp_G a1 a2 a3 N' G' x) :=
  ⟨t1_backUp_l h.1 hM hq, h.2.congr (h.m8 hM) (fun _ => rfl) (fun _ => rfl) (fun _ _ => ⟨rG_backUp _ _ (by omega), rG_backUp _ _ (by omega)⟩)⟩
theorem t2_backUp_r (h : R2 lc mc bc N G N' G') (hM : MI N' G') {x0 : Int32} {f : Nat → Int32} (hq : c_X3_backUp lc mc bc N G x = .inr x0) : R2 lc mc (bc + 1) (mt_nb N bc x) (mt_gb G bc f) (c_X4_backUp_N a1 a2 a3 N' G' x) (c_X4_backUp_G a1 a2 a3 N' G' x) :=
  ⟨t1_backUp_r h.1 hM hq, h.2.congr (h.m8 hM) (fun _ => by unfold mt_gb; rw [if_neg (by omega)]) (fun _ => by unfold mt_gb; rw [if_neg (by omega)]) (fun _ _ => ⟨rG_backUp _ _ (by omega), rG_backUp _ _ (by omega)⟩)⟩
-- what a place's server is
theorem sat_r (h : RV mc G G') {r : Nat} (hr : r < 341) : c_X3_serverAt lc mc bc N G (nI r) = svr G' mc r := by
  unfold c_X3_serverAt
  rw [if_neg (fun q => (pl_in (by omega)).mp q hr), nI_clamp (by omega)]; exact (h r hr).1
theorem rat_r (h : RV mc G G') {r : Nat} (hr : r < 341) : c_X3_restAt lc mc bc N G (nI r) = svq G' mc r := by
  unfold c_X3_restAt
  rw [if_neg (fun q => (pl_in (by omega)).mp q hr), nI_clamp (by omega)]; exact (h r hr).2
theorem sby (hm : mc = mqN N') (hx : IsP x) : c_X4_servedBy a1 a2 a3 N' G' x = svr G' mc (rkI x) := by
  unfold c_X4_servedBy svr
  rw [← hx.1, hm]
/-- 'served' on both sides -/
theorem q_served (h : R2 lc mc bc N G N' G') :
    (∃ w, c_X3_served lc mc bc N G x = .inr w ∧ c_X4_served a1 a2 a3 N' G' x = w ∧ c_X4_served_N a1 a2 a3 N' G' x = mt_gu N' 200 15 0)
    ∨ (∃ u : Int32, ((u = 1 ∧ c_X3_served lc mc bc N G x = .inl "java/lang/IllegalArgumentException") ∨ (u = 2 ∧ c_X3_served lc mc bc N G x = .inl "java/util/NoSuchElementException")) ∧ c_X4_served_N a1 a2 a3 N' G' x = mt_gu N' 200 15 u) := by
  unfold c_X3_served c_X4_served c_X4_served_N
  by_cases hx : IsP x
  · rw [cp_P hx, isP_1 hx, sby (mc := mc) h.1.1.2.1 hx]
    simp only [scase, sat_r h.2 hx.2, if_neg one_ne]
    by_cases c : svr G' mc (rkI x) = -1
    · right; rw [if_pos c, if_pos c]; exact ⟨2, Or.inr ⟨rfl, rfl⟩, rfl⟩
    · left; rw [if_neg c, if_neg c, if_neg c]; exact ⟨_, rfl, rfl, rfl⟩
  · rw [cp_N hx, ip_N hx]
    exact Or.inr ⟨1, Or.inl ⟨rfl, rfl⟩, rfl⟩
theorem q_srv (h : R2 lc mc bc N G N' G') : (∃ w, c_X3_served lc mc bc N G x = .inr w ∧ c_X4_served a1 a2 a3 N' G' x = w ∧ c_X4_served_N a1 a2 a3 N' G' x 200 15 = 0)
    ∨ (∃ u : Int32, ((u = 1 ∧ c_X3_served lc mc bc N G x = .inl "java/lang/IllegalArgumentException") ∨ (u = 2 ∧ c_X3_served lc mc bc N G x = .inl "java/util/NoSuchElementException")) ∧ c_X4_served_N a1 a2 a3 N' G' x 200 15 = u) := by
  rcases q_served (a1 := a1) (a2 := a2) (a3 := a3) (x := x) h with ⟨w, q1, q2, q3⟩ | ⟨u, q1, q3⟩
  · exact Or.inl ⟨w, q1, q2, by rw [q3]; rfl⟩
  · exact Or.inr ⟨u, q1, by rw [q3]; rfl⟩
-- 'covered'
theorem anc_add (r a b : Nat) : anc r (a + b) = anc (anc r a) b := by
  induction b with
  | zero => rfl
  | succ b ih => rw [← Nat.add_assoc, anc, ih]; rfl
theorem bg_tr {x y z : Int32} (hx : IsP x) (hy : IsP y) (hz : IsP z) (h1 : ¬ c_X4_begins x y = 0) (h2 : ¬ c_X4_begins y z = 0) : ¬ c_X4_begins x z = 0 := by
  obtain ⟨p1, p2⟩ := bg_eq hx hy h1
  obtain ⟨q1, q2⟩ := bg_eq hy hz h2
  have e : anc (rkI x) (dn (rkI x) - dn (rkI z)) = rkI z := by
    rw [show dn (rkI x) - dn (rkI z) = (dn (rkI x) - dn (rkI y)) + (dn (rkI y) - dn (rkI z)) by omega, anc_add, p2, q2]
  have := bg_conv hx.2 hz.2 (by omega) e
  rw [← hx.1, ← hz.1] at this
  rw [this]; decide
theorem bg_rf {x : Int32} (hx : IsP x) : ¬ c_X4_begins x x = 0 := by
  have := bg_conv hx.2 hx.2 (Nat.le_refl _) (by rw [Nat.sub_self]; rfl)
  rw [← hx.1] at this
  rw [this]; decide
theorem sv_last {n j : Nat} (hj : j < n) (hn : n ≤ 8) : (c_X4_servedBy_ls G' x n = nI j ↔ (¬ G' 208 j = 0 ∧ ¬ c_X4_begins x (G' 205 j) = 0 ∧ ∀ k, j < k → k < n → (G' 208 k = 0 ∨ c_X4_begins x (G' 205 k) = 0))) := by
  induction n with
  | zero => omega
  | succ n ih =>
    rw [c_X4_servedBy_ls]
    by_cases e : j = n
    · subst e
      have hne : ¬ c_X4_servedBy_ls G' x j = nI j := fun q => by
        rcases sb_of G' x j with q1 | ⟨i, q1, q2, -, -⟩
        · rw [q1] at q; exact neg_nI (j := j) (by omega) q.symm
        · rw [q2] at q; have := (nI_eq (by omega) (by omega)).mp q; omega
      by_cases c : G' 208 j = 0
      · rw [if_pos c]; exact ⟨fun q => absurd q hne, fun q => absurd c q.1⟩
      · rw [if_neg c]
        by_cases d : c_X4_begins x (G' 205 j) = 0
        · rw [if_pos d]; exact ⟨fun q => absurd q hne, fun q => absurd d q.2.1⟩
        · rw [if_neg d]; exact ⟨fun _ => ⟨c, d, fun k h1 h2 => by omega⟩, fun _ => rfl⟩
    · have i9 := ih (by omega) (by omega)
      by_cases c : G' 208 n = 0
      · rw [if_pos c, i9]
        refine ⟨fun q => ⟨q.1, q.2.1, fun k h1 h2 => ?_⟩, fun q => ⟨q.1, q.2.1, fun k h1 h2 => q.2.2 k h1 (by omega)⟩⟩
        by_cases e2 : k = n
        · subst e2; exact Or.inl c
        · exact q.2.2 k h1 (by omega)
      · rw [if_neg c]
        by_cases d : c_X4_begins x (G' 205 n) = 0
        · rw [if_pos d, i9]
          refine ⟨fun q => ⟨q.1, q.2.1, fun k h1 h2 => ?_⟩, fun q => ⟨q.1, q.2.1, fun k h1 h2 => q.2.2 k h1 (by omega)⟩⟩
          by_cases e2 : k = n
          · subst e2; exact Or.inr d
          · exact q.2.2 k h1 (by omega)
        · rw [if_neg d]
          refine ⟨fun q => ?_, fun q => ?_⟩
          · have := (nI_eq (a := n) (b := j) (by omega) (by omega)).mp q; omega
          · rcases q.2.2 n (by omega) (by omega) with q1 | q1
            · exact absurd q1 c
            · exact absurd q1 d
theorem qa_0 {q n : Nat} : (c_X4_covered_qa a1 a2 a3 N' G' q n = 0 ↔ ∀ j, j < n → ¬ c_X4_servedBy a1 a2 a3 N' G' (c_X4_pathOf (nI j)) = nI q) := by
  induction n with
  | zero => exact ⟨fun _ j hj => absurd hj (Nat.not_lt_zero j), fun _ => rfl⟩
  | succ n ih =>
    rw [c_X4_covered_qa]
    by_cases c : c_X4_covered_qa a1 a2 a3 N' G' q n = 0
    · rw [if_pos c]
      by_cases d : c_X4_servedBy a1 a2 a3 N' G' (c_X4_pathOf (nI n)) = nI q
      · rw [if_pos d]; exact ⟨fun h => absurd h one_ne, fun h => absurd d (h n (by omega))⟩
      · rw [if_neg d]
        refine ⟨fun _ j hj => ?_, fun _ => rfl⟩
        by_cases e : j = n
        · subst e; exact d
        · exact ih.mp c j (by omega)
    · rw [if_neg c]
      exact ⟨fun h => absurd h one_ne, fun h => absurd (ih.mpr (fun j hj => h j (by omega))) c⟩
theorem q_covered (h : R2 lc mc bc N G N' G') (hM : MI N' G') : c_X3_covered lc mc bc N G = c_X4_covered a1 a2 a3 N' G' := by
  have h8 := h.m8 hM
  have hm := h.1.1.2.1
  have key : ∀ n, n ≤ mc → c_X3_covered_ln lc mc bc N G n = c_X4_covered_ls a1 a2 a3 N' G' n := by
    intro n
    induction n with
    | zero => intro _; rfl
    | succ n ih =>
      intro hn
      obtain ⟨m1, -, -, m4, -, -⟩ := h.1.2.1 n (by omega)
      have hp : IsP (G' 205 n) := MI_pt hM (by omega)
      rw [c_X3_covered_ln, c_X4_covered_ls, mth_k h8 (by omega), m4, ← ih (by omega)]
      by_cases c : N (150 + n) 3 = 0
      · rw [if_pos c, if_pos c, Int32.add_zero]; rfl
      · rw [if_neg c, if_neg c]
        show (if c_X3_serverAt lc mc bc N G (c_X3_placeOf (N (150 + n) 2)) = nI n then _ else _) = _
        rw [← m1, pl_P hp, sat_r h.2 hp.2]
        have e9 : (svr G' mc (rkI (G' 205 n)) = nI n) ↔ ¬ c_X4_covered_qa a1 a2 a3 N' G' n 341 = 0 := by
          rw [qa_0]
          constructor
          · intro q q2
            refine q2 (rkI (G' 205 n)) hp.2 ?_
            rw [pathOf_eq hp.2, sby (mc := mc) hm (isP_pth hp.2).1, (isP_pth hp.2).2]; exact q
          · intro q
            by_cases d : svr G' mc (rkI (G' 205 n)) = nI n
            · exact d
            · refine absurd (fun j hj => ?_) q
              rw [pathOf_eq hj, sby (mc := mc) hm (isP_pth hj).1, (isP_pth hj).2]
              intro q3
              refine d ?_
              have hpj := (isP_pth hj).1
              unfold svr at q3 ⊢
              rw [sv_last (by omega) h8] at q3 ⊢
              rw [← hp.1]
              refine ⟨q3.1, bg_rf hp, fun k h1 h2 => ?_⟩
              rcases q3.2.2 k h1 h2 with q4 | q4
              · exact Or.inl q4
              · by_cases q5 : c_X4_begins (G' 205 n) (G' 205 k) = 0
                · exact Or.inr q5
                · exact absurd q4 (bg_tr hpj hp (MI_pt hM (by omega)) q3.2.1 q5)
        by_cases d : svr G' mc (rkI (G' 205 n)) = nI n
        · rw [if_pos d, if_neg (e9.mp d), Int32.add_zero]
        · rw [if_neg d]
          by_cases d2 : c_X4_covered_qa a1 a2 a3 N' G' n 341 = 0
          · rw [if_pos d2]
          · exact absurd (e9.mpr d2) d
  unfold c_X3_covered c_X4_covered
  rw [← hm]
  exact key mc (Nat.le_refl _)
end SE

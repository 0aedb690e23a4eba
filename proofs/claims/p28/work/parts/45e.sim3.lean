/-! the first relation is kept by each pair of calls -/
section SC3
variable {lc mc bc a1 a2 a3 : Nat} {N G N1 G1 N' G' N2 G2 : Nat → Nat → Int32} {x y v k w b : Int32}
theorem R1.to (h : R1 lc mc bc N G N' G') (h1 : ∀ i j, i < mc → j < 5 → N1 (150 + i) j = N (150 + i) j) (h2 : ∀ j, G1 5 j = G 5 j) (ht : TO N' N2) : R1 lc mc bc N1 G1 N2 G' := by
  obtain ⟨u, rfl⟩ := ht
  exact h.keep h1 h2 (fun j hj => by rcases hj with rfl | rfl | rfl <;> rfl) (fun _ _ _ _ => rfl)
theorem t1_same (h : R1 lc mc bc N G N' G') (ht : TO N' N2) : R1 lc mc bc N G N2 G' := h.to (fun _ _ _ _ => rfl) (fun _ => rfl) ht
theorem t1_hidden (h6 : lc ≤ 6) (h : R1 lc mc bc N G N' G') (ht : TO N' N2) : R1 lc mc bc N (c_X3_hidden_G lc mc bc N G) N2 G' := h.to (fun _ _ _ _ => rfl) (fun j => sb_hidden h6 5 j (by omega)) ht
theorem t1_shownShare (h6 : lc ≤ 6) (h : R1 lc mc bc N G N' G') (ht : TO N' N2) : R1 lc mc bc N (c_X3_shownShare_G lc mc bc N G) N2 G' := h.to (fun _ _ _ _ => rfl) (fun j => sb_shownShare h6 5 j (by omega)) ht
theorem t1_write (h6 : lc ≤ 6) (h : R1 lc mc bc N G N' G') : R1 lc mc bc (c_X3_write_N lc mc bc N G x y v) (c_X3_write_G lc mc bc N G x y v) (c_X4_write_N a1 a2 a3 N' G' x y v) (c_X4_write_G a1 a2 a3 N' G' x y v) :=
  h.keep (fun i j _ _ => sp_writeN _ _ (by omega)) (fun j => sw_write h6 5 j (by omega)) (fun j hj => rN_write 200 j (by omega)) (fun k j hk _ => rG_write k j (by omega))
theorem t1_link (h6 : lc ≤ 6) (h : R1 lc mc bc N G N' G') : R1 lc mc bc (c_X3_link_N lc mc bc N G x y v) (c_X3_link_G lc mc bc N G x y v) (c_X4_link_N a1 a2 a3 N' G' x y v) (c_X4_link_G a1 a2 a3 N' G' x y v) :=
  h.keep (fun i j _ _ => sp_linkN _ _ (by omega)) (fun j => sw_link h6 5 j (by omega)) (fun j hj => rN_link 200 j (by omega)) (fun k j hk _ => rG_link k j (by omega))
theorem t1_remove (h6 : lc ≤ 6) (h : R1 lc mc bc N G N' G') : R1 lc mc bc N (c_X3_remove_G lc mc bc N G x) (c_X4_remove_N a1 a2 a3 N' G' x) (c_X4_remove_G a1 a2 a3 N' G' x) :=
  h.keep (fun i j _ _ => rfl) (fun j => sw_remove h6 5 j (by omega)) (fun j hj => rN_remove 200 j (by omega)) (fun k j hk _ => rG_remove k j (by omega))
theorem t1_setCrossing (h : R1 lc mc bc N G N' G') (hM : MI N' G') : R1 lc mc bc (c_X3_setCrossing_N lc mc bc N G x b) G (c_X4_setCrossing_N a1 a2 a3 N' G' x b) (c_X4_setCrossing_G a1 a2 a3 N' G' x b) := by
  rcases s_cross (lc := lc) (bc := bc) (G := G) (a1 := a1) (a2 := a2) (a3 := a3) (x := x) (b := b) hM h.1.2.1 h.2.1 with ⟨i, hi, -, -, -, e1, e2, e3⟩ | ⟨-, e1, e2, e3⟩
  · rw [e1, e2, e3]
    exact ⟨h.1, h.2.1.set (by decide) (Or.inr (Or.inr ⟨rfl, rfl⟩)), h.2.2⟩
  · rw [e1, e2, e3]; exact h
theorem t1_move (h : R1 lc mc bc N G N' G') (hM : MI N' G') : R1 lc mc bc (c_X3_move_N lc mc bc N G x y) (c_X3_move_G lc mc bc N G x y) (c_X4_move_N a1 a2 a3 N' G' x y) (c_X4_move_G a1 a2 a3 N' G' x y) := by
  rcases s_move (lc := lc) (bc := bc) (G := G) (a1 := a1) (a2 := a2) (a3 := a3) (x := x) (y := y) hM h.1.2.1 h.2.1 with ⟨i, hi, -, -, -, -, e1, e4, e2, e3⟩ | ⟨u, -, e1, e4, e2, e3⟩
  · rw [e1, e2, e3, e4]
    refine ⟨h.1, h.2.1.set (by decide) (Or.inl ⟨rfl, rfl⟩), fun j hj => ?_⟩
    rw [ss_serveAgain 5 j (by omega)]; exact h.2.2 j hj
  · rw [e1, e2, e3, e4]; exact h
theorem t1_unmount (h : R1 lc mc bc N G N' G') (hM : MI N' G') : R1 lc mc bc (c_X3_unmount_N lc mc bc N G x) (c_X3_unmount_G lc mc bc N G x) (c_X4_unmount_N a1 a2 a3 N' G' x) (c_X4_unmount_G a1 a2 a3 N' G' x) := by
  rcases s_unmount (lc := lc) (bc := bc) (G := G) (a1 := a1) (a2 := a2) (a3 := a3) (x := x) hM h.1.2.1 h.2.1 with ⟨i, hi, -, -, e1, e4, e2, e3⟩ | ⟨-, e1, e4, e2, e3⟩
  · rw [e1, e2, e3, e4]
    refine ⟨h.1, h.2.1.set (by decide) (Or.inr (Or.inl ⟨rfl, rfl⟩)), fun j hj => ?_⟩
    rw [ss_serveAgain 5 j (by omega)]; exact h.2.2 j hj
  · rw [e1, e2, e3, e4]; exact h
theorem t1_setQuota (h : R1 lc mc bc N G N' G') : R1 lc mc bc N (c_X3_setQuota_G lc mc bc N G x y) (c_X4_setQuota_N a1 a2 a3 N' G' x y) (c_X4_setQuota_G a1 a2 a3 N' G' x y) := by
  rcases s_quota (lc := lc) (mc := mc) (bc := bc) (N := N) (N' := N') (a1 := a1) (a2 := a2) (a3 := a3) (x := x) (y := y) h.2.2 with ⟨j, hj, -, -, e1, e2, e3⟩ | ⟨-, e1, e2, e3⟩
  · rw [e1, e2, e3]; exact ⟨h.1, h.2.1, h.2.2.set⟩
  · rw [e1, e2, e3]; exact h
theorem t1_mount_r (h : R1 lc mc bc N G N' G') (hM : MI N' G') {x0 : Int32} (hq : c_X3_mount lc mc bc N G x y v = .inr x0) : mc < 8 ∧ x0 = nI mc ∧ R1 lc (mc + 1) bc (mt_nm N mc x y v) (c_X3_serveAgain_G lc (mc + 1) bc (mt_nm N mc x y v) G) (c_X4_mount_N a1 a2 a3 N' G' x y v) (c_X4_mount_G a1 a2 a3 N' G' x y v) := by
  rcases s_mount (lc := lc) (bc := bc) (G := G) (a1 := a1) (a2 := a2) (a3 := a3) (x := x) (y := y) (v := v) hM h.1.1 h.1.2.1 h.2.1 with ⟨-, -, -, hne, hlt, e0, e2, e3⟩ | ⟨⟨E, e0⟩, -⟩
  · rw [hq] at e0
    have e9 : N' 200 9 = nI mc := by rw [hM.2.2.2.2.1, ← h.1.2.1]
    have ec : (N' 200 9).toNatClampNeg = mc := by rw [e9, nI_clamp (by omega)]
    refine ⟨hlt, Sum.inr.inj e0, ?_⟩
    rw [e2, e3, ec]
    refine ⟨⟨h.1.1, ?_, h.1.2.2⟩, h.2.1.mount hne, fun j hj => ?_⟩
    · show mc + 1 = (N' 200 9 + 1).toNatClampNeg
      rw [e9, nI_1, nI_clamp (by omega)]
    · rw [ss_serveAgain 5 j (by omega)]; exact h.2.2 j hj
  · rw [hq] at e0; cases e0
theorem t1_mount_l (h : R1 lc mc bc N G N' G') (hM : MI N' G') {E : String} (hq : c_X3_mount lc mc bc N G x y v = .inl E) : R1 lc mc bc N G (c_X4_mount_N a1 a2 a3 N' G' x y v) (c_X4_mount_G a1 a2 a3 N' G' x y v) := by
  rcases s_mount (lc := lc) (bc := bc) (G := G) (a1 := a1) (a2 := a2) (a3 := a3) (x := x) (y := y) (v := v) hM h.1.1 h.1.2.1 h.2.1 with ⟨-, -, -, hne, hlt, e0, e2, e3⟩ | ⟨-, ⟨u, e2⟩, e3⟩
  · rw [hq] at e0; cases e0
  · rw [e2, e3]; exact h
theorem nI_lt6 {n : Nat} (hn : n ≤ 8) (h : nI n < 6) : n < 6 := by
  rcases Nat.lt_or_ge n 6 with q | q
  · exact q
  · exact absurd h (by rcases (show n = 6 ∨ n = 7 ∨ n = 8 by omega) with rfl | rfl | rfl <;> decide)
theorem add_l (h6 : lc ≤ 6) {E : String} (hq : c_X3_addLayer lc mc bc N G = .inl E) : lc = 6 ∧ E = "java/lang/IllegalStateException" := by
  unfold c_X3_addLayer at hq
  rw [if_neg (nI_pos (by omega))] at hq
  by_cases c : nI lc < 6
  · rw [if_pos c] at hq; cases hq
  · rw [if_neg c] at hq; cases hq
    refine ⟨?_, rfl⟩
    rcases Nat.lt_or_ge lc 6 with q | q
    · exact absurd (nI_lt q (by decide)) c
    · omega
theorem add_r (h6 : lc ≤ 6) {x : Int32} (hq : c_X3_addLayer lc mc bc N G = .inr x) : lc < 6 ∧ x = nI lc := by
  unfold c_X3_addLayer at hq
  rw [if_neg (nI_pos (by omega))] at hq
  by_cases c : nI lc < 6
  · rw [if_pos c] at hq; cases hq; exact ⟨nI_lt6 (by omega) c, rfl⟩
  · rw [if_neg c] at hq; cases hq
theorem bak_l (h6 : bc ≤ 6) {E : String} (hq : c_X3_backUp lc mc bc N G x = .inl E) : bc = 6 ∧ E = "java/lang/IllegalStateException" := by
  unfold c_X3_backUp at hq
  rw [if_neg (nI_pos (by omega))] at hq
  by_cases c : nI bc < 6
  · rw [if_pos c] at hq; cases hq
  · rw [if_neg c] at hq; cases hq
    refine ⟨?_, rfl⟩
    rcases Nat.lt_or_ge bc 6 with q | q
    · exact absurd (nI_lt q (by decide)) c
    · omega
theorem bak_r (h6 : bc ≤ 6) {x0 : Int32} (hq : c_X3_backUp lc mc bc N G x = .inr x0) : bc < 6 ∧ x0 = nI bc := by
  unfold c_X3_backUp at hq
  rw [if_neg (nI_pos (by omega))] at hq
  by_cases c : nI bc < 6
  · rw [if_pos c] at hq; cases hq; exact ⟨nI_lt6 (by omega) c, rfl⟩
  · rw [if_neg c] at hq; cases hq
theorem i6 {n : Nat} (h : n ≤ 6) (e : n = 6) : nI n = (6 : Int32) := by rw [e]; rfl
theorem i6n {n : Nat} (h : n < 6) : ¬ nI n = (6 : Int32) := fun q => by have := (nI_eq (a := n) (b := 6) (by omega) (by decide)).mp q; omega
theorem ref_add (hM : MI N' G') (h : lc = lqN N') : (lc = 6 ∧ c_X4_addLayer_N a1 a2 a3 N' G' = mt_gu N' 200 15 1) ∨ (lc < 6 ∧ c_X4_addLayer_N a1 a2 a3 N' G' = mt_gu (mt_gu N' 200 15 0) 200 3 (nI (lc + 1)) ∧ c_X4_addLayer a1 a2 a3 N' G' = nI lc) := by
  have e3 : N' 200 3 = nI lc := by rw [hM.2.2.2.1, ← h]
  have h6 : lc ≤ 6 := by rw [h]; exact hM.1
  unfold c_X4_addLayer_N c_X4_addLayer
  by_cases e : lc = 6
  · left; rw [e3, if_pos (i6 h6 e)]; exact ⟨e, rfl⟩
  · right; rw [e3, if_neg (i6n (by omega)), if_neg (i6n (by omega)), nI_1, nI_pred]; exact ⟨by omega, rfl, rfl⟩
theorem ref_bak (hM : MI N' G') (h : bc = bqN N') : (bc = 6 ∧ c_X4_backUp_N a1 a2 a3 N' G' b = mt_gu N' 200 15 1 ∧ c_X4_backUp_G a1 a2 a3 N' G' b = G') ∨ (bc < 6 ∧ c_X4_backUp_N a1 a2 a3 N' G' b = mt_gu (mt_gu N' 200 15 0) 200 14 (nI (bc + 1)) ∧ c_X4_backUp_G a1 a2 a3 N' G' b = mt_gu (c_X4_backUp_lG a1 a2 a3 N' G' b 2046) 214 bc b) := by
  have e3 : N' 200 14 = nI bc := by rw [hM.2.2.2.2.2.1, ← h]
  have h6 : bc ≤ 6 := by rw [h]; exact hM.2.2.1
  unfold c_X4_backUp_N c_X4_backUp_G
  by_cases e : bc = 6
  · left; rw [e3, if_pos (i6 h6 e), if_pos (i6 h6 e)]; exact ⟨e, rfl, rfl⟩
  · right; rw [e3, if_neg (i6n (by omega)), if_neg (i6n (by omega)), nI_1, nI_clamp (by omega)]; exact ⟨by omega, rfl, rfl⟩
theorem t1_addLayer_l (h : R1 lc mc bc N G N' G') (hM : MI N' G') {E : String} (hq : c_X3_addLayer lc mc bc N G = .inl E) : R1 lc mc bc N G (c_X4_addLayer_N a1 a2 a3 N' G') G' := by
  obtain ⟨h1, -⟩ := add_l (by rw [h.1.1]; exact hM.1) hq
  rcases ref_add (a1 := a1) (a2 := a2) (a3 := a3) hM h.1.1 with ⟨-, e⟩ | ⟨h2, -⟩
  · rw [e]; exact h
  · omega
theorem t1_addLayer_r (h : R1 lc mc bc N G N' G') (hM : MI N' G') {x0 : Int32} (hq : c_X3_addLayer lc mc bc N G = .inr x0) : R1 (lc + 1) mc bc N (mt_g0 G lc) (c_X4_addLayer_N a1 a2 a3 N' G') G' := by
  obtain ⟨h1, -⟩ := add_r (by rw [h.1.1]; exact hM.1) hq
  rcases ref_add (a1 := a1) (a2 := a2) (a3 := a3) hM h.1.1 with ⟨h2, -⟩ | ⟨-, e, -⟩
  · omega
  · rw [e]
    refine ⟨⟨?_, h.1.2.1, h.1.2.2⟩, h.2.1, fun j hj => ?_⟩
    · show lc + 1 = (nI (lc + 1)).toNatClampNeg
      rw [nI_clamp (by omega)]
    · unfold mt_g0; rw [if_neg (by omega)]; exact h.2.2 j hj
theorem t1_backUp_l (h : R1 lc mc bc N G N' G') (hM : MI N' G') {E : String} (hq : c_X3_backUp lc mc bc N G x = .inl E) : R1 lc mc bc N G (c_X4_backUp_N a1 a2 a3 N' G' x) (c_X4_backUp_G a1 a2 a3 N' G' x) := by
  obtain ⟨h1, -⟩ := bak_l (by rw [h.1.2.2]; exact hM.2.2.1) hq
  rcases ref_bak (a1 := a1) (a2 := a2) (a3 := a3) (b := x) hM h.1.2.2 with ⟨-, e1, e2⟩ | ⟨h2, -⟩
  · rw [e1, e2]; exact h
  · omega
theorem t1_backUp_r (h : R1 lc mc bc N G N' G') (hM : MI N' G') {x0 : Int32} {f : Nat → Int32} (hq : c_X3_backUp lc mc bc N G x = .inr x0) : R1 lc mc (bc + 1) (mt_nb N bc x) (mt_gb G bc f) (c_X4_backUp_N a1 a2 a3 N' G' x) (c_X4_backUp_G a1 a2 a3 N' G' x) := by
  obtain ⟨h1, -⟩ := bak_r (by rw [h.1.2.2]; exact hM.2.2.1) hq
  have h8 : mc ≤ 8 := by rw [h.1.2.1]; exact hM.2.1
  rcases ref_bak (a1 := a1) (a2 := a2) (a3 := a3) (b := x) hM h.1.2.2 with ⟨h2, -⟩ | ⟨-, e1, e2⟩
  · omega
  · have g9 : ∀ k j, 205 ≤ k → k < 212 → c_X4_backUp_G a1 a2 a3 N' G' x k j = G' k j := fun k j hk hk2 => rG_backUp k j (by omega)
    rw [e1]
    refine ⟨⟨h.1.1, h.1.2.1, ?_⟩, h.2.1.congr (fun i j hi _ => ?_) (fun i k _ hk hk2 => g9 k i hk (by omega)), fun j hj => ?_⟩
    · show bc + 1 = (nI (bc + 1)).toNatClampNeg
      rw [nI_clamp (by omega)]
    · unfold mt_nb; rw [if_neg (by omega)]
    · rw [g9 211 j (by decide) (by decide)]
      unfold mt_gb; rw [if_neg (by omega)]; exact h.2.2 j hj
end SC3

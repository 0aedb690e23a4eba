/-! the third relation is kept by each pair of calls -/
section SJ3
variable {lc mc bc mc1 bc1 a1 a2 a3 : Nat} {N G N1 G1 N' G' N2 G2 : Nat → Nat → Int32} {x y v k w b : Int32}
theorem RY.congr (h : RY lc G G') (h1 : ∀ a r, 110 ≤ a → a < 110 + lc ∨ (120 ≤ a ∧ a < 120 + lc) ∨ (130 ≤ a ∧ a < 130 + lc) → G1 a r = G a r) (h2 : ∀ a r, 201 ≤ a → a ≤ 203 → G2 a r = G' a r) : RY lc G1 G2 := by
  obtain ⟨r1, r2, r3, r4, r5, r6⟩ := h
  have e1 := fun r => h2 201 r (by decide) (by decide)
  have e2 := fun r => h2 202 r (by decide) (by decide)
  have e3 := fun r => h2 203 r (by decide) (by decide)
  refine ⟨fun l r hl hr => ?_, fun l r hl hr hk => ?_, fun i p q => ?_, fun l hl => ?_, fun i hi hk => ?_, fun i hi hk => ?_⟩
  · rw [h1 _ _ (by omega) (by omega), e1]; exact r1 l r hl hr
  · rw [e1] at hk
    rw [h1 _ _ (by omega) (by omega), h1 _ _ (by omega) (by omega), e2, e3]; exact r2 l r hl hr hk
  · rw [e1]; exact r3 i p q
  · rw [e1]; exact r4 l hl
  · rw [e1] at hk; rw [e2]; exact r5 i hi hk
  · rw [e1] at hk; rw [e3]; exact r6 i hi hk
theorem RU.congr (h : RU G G') (h1 : ∀ r, G1 4 r = G 4 r) (h2 : ∀ a r, 201 ≤ a → a ≤ 203 → G2 a r = G' a r) : RU G1 G2 := fun o ho => by
  rw [h1, h o ho, us_sm (Nat.le_refl _), us_sm (Nat.le_refl _)]
  refine sm_congr (fun i _ => ?_)
  unfold ct
  rw [h2 201 i (by decide) (by decide), h2 202 i (by decide) (by decide), h2 203 i (by decide) (by decide)]
theorem R3.kp (h : R3 lc mc bc N G N' G') (h6 : lc ≤ 6) (hR : R2 lc mc1 bc1 N1 G1 N2 G2) (h1 : ∀ a r, (a = 4 ∨ (110 ≤ a ∧ a < 110 + lc ∨ (120 ≤ a ∧ a < 120 + lc) ∨ (130 ≤ a ∧ a < 130 + lc))) → G1 a r = G a r) (h2 : ∀ a r, 201 ≤ a → a ≤ 203 → G2 a r = G' a r) (h3 : N1 0 10 = N 0 10) (h4 : N2 200 11 = N' 200 11) : R3 lc mc1 bc1 N1 G1 N2 G2 :=
  ⟨hR, h.2.1.congr (fun a r p q => h1 a r (Or.inr (by omega))) h2, h.2.2.1.congr (fun r => h1 4 r (Or.inl rfl)) h2, by rw [h3, h4]; exact h.2.2.2⟩
theorem R3.hi (h : R3 lc mc bc N G N' G') (h8 : mc ≤ 8) (hN : HiE N' N2) (hG : HiE G' G2) : R3 lc mc bc N G N2 G2 :=
  ⟨h.1.hi h8 hN hG, h.2.1.congr (fun _ _ _ _ => rfl) (fun a r p _ => hG a r (by omega)), h.2.2.1.congr (fun _ => rfl) (fun a r p _ => hG a r (by omega)), by rw [hN 200 11 (by decide)]; exact h.2.2.2⟩
theorem R3.lo (h : R3 lc mc bc N G N' G') (h6 : lc ≤ 6) (h8 : mc ≤ 8) (hN : LoE N N1) (hG : LoE G G1) : R3 lc mc bc N1 G1 N' G' :=
  ⟨h.1.lo h8 hN hG, h.2.1.congr (fun a r _ q => hG a r (by omega)) (fun _ _ _ _ => rfl), h.2.2.1.congr (fun r => hG 4 r (by decide)) (fun _ _ _ _ => rfl), by rw [hN 0 10 (by decide)]; exact h.2.2.2⟩
theorem to_11 (ht : TO N' N2) : N2 200 11 = N' 200 11 := by obtain ⟨u, rfl⟩ := ht; rfl
theorem t3_same (h : R3 lc mc bc N G N' G') (ht : TO N' N2) : R3 lc mc bc N G N2 G' := ⟨t2_same h.1 ht, h.2.1, h.2.2.1, by rw [to_11 ht]; exact h.2.2.2⟩
theorem t3_hidden (h6 : lc ≤ 6) (h8 : mc ≤ 8) (h : R3 lc mc bc N G N' G') (ht : TO N' N2) : R3 lc mc bc N (c_X3_hidden_G lc mc bc N G) N2 G' :=
  h.kp h6 (t2_hidden h6 h8 h.1 ht) (fun a r q => sb_hidden h6 a r (by omega)) (fun _ _ _ _ => rfl) rfl (to_11 ht)
theorem t3_shownShare (h6 : lc ≤ 6) (h8 : mc ≤ 8) (h : R3 lc mc bc N G N' G') (ht : TO N' N2) : R3 lc mc bc N (c_X3_shownShare_G lc mc bc N G) N2 G' :=
  h.kp h6 (t2_shownShare h6 h8 h.1 ht) (fun a r q => sb_shownShare h6 a r (by omega)) (fun _ _ _ _ => rfl) rfl (to_11 ht)
theorem t3_setCrossing (h : R3 lc mc bc N G N' G') (hM : MI N' G') : R3 lc mc bc (c_X3_setCrossing_N lc mc bc N G x b) G (c_X4_setCrossing_N a1 a2 a3 N' G' x b) (c_X4_setCrossing_G a1 a2 a3 N' G' x b) := by
  have h6 := l6 hM h.1.1.1.1
  have hR := t2_setCrossing (a1 := a1) (a2 := a2) (a3 := a3) (x := x) (b := b) h.1 hM
  rcases s_cross (lc := lc) (bc := bc) (G := G) (a1 := a1) (a2 := a2) (a3 := a3) (x := x) (b := b) hM h.1.1.1.2.1 h.1.1.2.1 with ⟨i, hi, -, -, -, e1, e2, e3⟩ | ⟨-, e1, e2, e3⟩
  · exact h.kp h6 hR (fun _ _ _ => rfl) (fun a r p q => by rw [e3]; exact gu_n (by omega)) (by rw [e1]; exact gu_n (by omega)) (by rw [e2]; rfl)
  · exact h.kp h6 hR (fun _ _ _ => rfl) (fun a r p q => by rw [e3]) (by rw [e1]) (by rw [e2]; rfl)
theorem t3_move (h : R3 lc mc bc N G N' G') (hM : MI N' G') : R3 lc mc bc (c_X3_move_N lc mc bc N G x y) (c_X3_move_G lc mc bc N G x y) (c_X4_move_N a1 a2 a3 N' G' x y) (c_X4_move_G a1 a2 a3 N' G' x y) := by
  have h6 := l6 hM h.1.1.1.1
  have hR := t2_move (a1 := a1) (a2 := a2) (a3 := a3) (x := x) (y := y) h.1 hM
  rcases s_move (lc := lc) (bc := bc) (G := G) (a1 := a1) (a2 := a2) (a3 := a3) (x := x) (y := y) hM h.1.1.1.2.1 h.1.1.2.1 with ⟨i, hi, -, -, -, -, e1, e4, e2, e3⟩ | ⟨u, -, e1, e4, e2, e3⟩
  · exact h.kp h6 hR (fun a r q => ss_move a r (by omega)) (fun a r p q => by rw [e3]; exact gu_n (by omega)) (by rw [e1]; exact gu_n (by omega)) (by rw [e2]; rfl)
  · exact h.kp h6 hR (fun a r q => ss_move a r (by omega)) (fun a r p q => by rw [e3]) (by rw [e1]) (by rw [e2]; rfl)
theorem t3_unmount (h : R3 lc mc bc N G N' G') (hM : MI N' G') : R3 lc mc bc (c_X3_unmount_N lc mc bc N G x) (c_X3_unmount_G lc mc bc N G x) (c_X4_unmount_N a1 a2 a3 N' G' x) (c_X4_unmount_G a1 a2 a3 N' G' x) := by
  have h6 := l6 hM h.1.1.1.1
  have hR := t2_unmount (a1 := a1) (a2 := a2) (a3 := a3) (x := x) h.1 hM
  rcases s_unmount (lc := lc) (bc := bc) (G := G) (a1 := a1) (a2 := a2) (a3 := a3) (x := x) hM h.1.1.1.2.1 h.1.1.2.1 with ⟨i, hi, -, -, e1, e4, e2, e3⟩ | ⟨-, e1, e4, e2, e3⟩
  · exact h.kp h6 hR (fun a r q => ss_unmount a r (by omega)) (fun a r p q => by rw [e3]; exact gu_n (by omega)) (by rw [e1]; exact gu_n (by omega)) (by rw [e2]; rfl)
  · exact h.kp h6 hR (fun a r q => ss_unmount a r (by omega)) (fun a r p q => by rw [e3]) (by rw [e1]) (by rw [e2]; rfl)
theorem t3_setQuota (h : R3 lc mc bc N G N' G') (hM : MI N' G') : R3 lc mc bc N (c_X3_setQuota_G lc mc bc N G x y) (c_X4_setQuota_N a1 a2 a3 N' G' x y) (c_X4_setQuota_G a1 a2 a3 N' G' x y) := by
  have h6 := l6 hM h.1.1.1.1
  have hR := t2_setQuota (a1 := a1) (a2 := a2) (a3 := a3) (x := x) (y := y) h.1 hM
  rcases s_quota (lc := lc) (mc := mc) (bc := bc) (N := N) (N' := N') (a1 := a1) (a2 := a2) (a3 := a3) (x := x) (y := y) h.1.1.2.2 with ⟨j, hj, -, -, e1, e2, e3⟩ | ⟨-, e1, e2, e3⟩
  · exact h.kp h6 hR (fun a r q => by rw [e1]; exact gu_n (by omega)) (fun a r p q => by rw [e3]; exact gu_n (by omega)) rfl (by rw [e2]; rfl)
  · exact h.kp h6 hR (fun a r q => by rw [e1]) (fun a r p q => by rw [e3]) rfl (by rw [e2]; rfl)
theorem t3_mount_r (h : R3 lc mc bc N G N' G') (hM : MI N' G') {x0 : Int32} (hq : c_X3_mount lc mc bc N G x y v = .inr x0) : mc < 8 ∧ x0 = nI mc ∧ R3 lc (mc + 1) bc (mt_nm N mc x y v) (c_X3_serveAgain_G lc (mc + 1) bc (mt_nm N mc x y v) G) (c_X4_mount_N a1 a2 a3 N' G' x y v) (c_X4_mount_G a1 a2 a3 N' G' x y v) := by
  have h6 := l6 hM h.1.1.1.1
  obtain ⟨h8, hx, hR⟩ := t2_mount_r (a1 := a1) (a2 := a2) (a3 := a3) h.1 hM hq
  refine ⟨h8, hx, ?_⟩
  rcases s_mount (lc := lc) (bc := bc) (G := G) (a1 := a1) (a2 := a2) (a3 := a3) (x := x) (y := y) (v := v) hM h.1.1.1.1 h.1.1.1.2.1 h.1.1.2.1 with ⟨-, -, -, hne, hlt, e0, e2, e3⟩ | ⟨⟨E, e0⟩, -⟩
  · refine h.kp h6 hR (fun a r q => ss_serveAgain a r (by omega)) (fun a r p q => ?_) ?_ (by rw [e2]; rfl)
    · rw [e3, gu_n (by omega), gu_n (by omega), gu_n (by omega), gu_n (by omega), gu_n (by omega)]
    · unfold mt_nm; rw [if_neg (by omega)]
  · rw [hq] at e0; cases e0
theorem t3_mount_l (h : R3 lc mc bc N G N' G') (hM : MI N' G') {E : String} (hq : c_X3_mount lc mc bc N G x y v = .inl E) : R3 lc mc bc N G (c_X4_mount_N a1 a2 a3 N' G' x y v) (c_X4_mount_G a1 a2 a3 N' G' x y v) := by
  have h6 := l6 hM h.1.1.1.1
  have hR := t2_mount_l (a1 := a1) (a2 := a2) (a3 := a3) h.1 hM hq
  rcases s_mount (lc := lc) (bc := bc) (G := G) (a1 := a1) (a2 := a2) (a3 := a3) (x := x) (y := y) (v := v) hM h.1.1.1.1 h.1.1.1.2.1 h.1.1.2.1 with ⟨-, -, -, hne, hlt, e0, e2, e3⟩ | ⟨-, ⟨u, e2⟩, e3⟩
  · rw [hq] at e0; cases e0
  · exact h.kp h6 hR (fun _ _ _ => rfl) (fun a r p q => by rw [e3]) rfl (by rw [e2]; rfl)
theorem t3_addLayer_l (h : R3 lc mc bc N G N' G') (hM : MI N' G') {E : String} (hq : c_X3_addLayer lc mc bc N G = .inl E) : R3 lc mc bc N G (c_X4_addLayer_N a1 a2 a3 N' G') G' := by
  have h6 := l6 hM h.1.1.1.1
  have hR := t2_addLayer_l (a1 := a1) (a2 := a2) (a3 := a3) h.1 hM hq
  refine h.kp h6 hR (fun _ _ _ => rfl) (fun _ _ _ _ => rfl) rfl ?_
  rcases ref_add (a1 := a1) (a2 := a2) (a3 := a3) hM h.1.1.1.1 with ⟨-, e⟩ | ⟨-, e, -⟩ <;> (rw [e]; rfl)
theorem t3_addLayer_r (h : R3 lc mc bc N G N' G') (hM : MI N' G') {x0 : Int32} (hq : c_X3_addLayer lc mc bc N G = .inr x0) : R3 (lc + 1) mc bc N (mt_g0 G lc) (c_X4_addLayer_N a1 a2 a3 N' G') G' := by
  have h6 := l6 hM h.1.1.1.1
  obtain ⟨hlt, -⟩ := add_r h6 hq
  have hR := t2_addLayer_r (a1 := a1) (a2 := a2) (a3 := a3) h.1 hM hq
  obtain ⟨r1, r2, r3, r4, r5, r6⟩ := h.2.1
  refine ⟨hR, ⟨fun l r hl hr => ?_, fun l r hl hr hk => ?_, fun i p q => r3 i (by omega) q, fun l hl => ?_, r5, r6⟩, fun o ho => ?_, ?_⟩
  · unfold mt_g0
    by_cases e : l = lc
    · rw [if_pos (by omega), e, r3 _ (by omega) (by omega)]
    · rw [if_neg (by omega)]; exact r1 l r (by omega) hr
  · by_cases e : l = lc
    · subst e
      rw [r3 _ (by omega) (by omega)] at hk
      exact absurd hk (by decide)
    · unfold mt_g0
      rw [if_neg (by omega), if_neg (by omega)]; exact r2 l r (by omega) hr hk
  · by_cases e : l = lc
    · subst e; exact r3 _ (by omega) (by omega)
    · exact r4 l (by omega)
  · unfold mt_g0; rw [if_neg (by omega)]; exact h.2.2.1 o ho
  · rcases ref_add (a1 := a1) (a2 := a2) (a3 := a3) hM h.1.1.1.1 with ⟨-, e⟩ | ⟨-, e, -⟩ <;> (rw [e]; exact h.2.2.2)
theorem rB_11 : c_X4_backUp_N a1 a2 a3 N' G' x 200 11 = N' 200 11 := rN_backUp _ _ (by omega)
theorem t3_backUp_l (h : R3 lc mc bc N G N' G') (hM : MI N' G') {E : String} (hq : c_X3_backUp lc mc bc N G x = .inl E) : R3 lc mc bc N G (c_X4_backUp_N a1 a2 a3 N' G' x) (c_X4_backUp_G a1 a2 a3 N' G' x) :=
  h.kp (l6 hM h.1.1.1.1) (t2_backUp_l h.1 hM hq) (fun _ _ _ => rfl) (fun a r p q => rG_backUp a r (by omega)) rfl rB_11
theorem t3_backUp_r (h : R3 lc mc bc N G N' G') (hM : MI N' G') {x0 : Int32} {f : Nat → Int32} (hq : c_X3_backUp lc mc bc N G x = .inr x0) : R3 lc mc (bc + 1) (mt_nb N bc x) (mt_gb G bc f) (c_X4_backUp_N a1 a2 a3 N' G' x) (c_X4_backUp_G a1 a2 a3 N' G' x) := by
  have h6 := l6 hM h.1.1.1.1
  refine h.kp h6 (t2_backUp_r h.1 hM hq) (fun a r q => ?_) (fun a r p q => rG_backUp a r (by omega)) ?_ rB_11
  · unfold mt_gb; rw [if_neg (by omega)]
  · unfold mt_nb; rw [if_neg (by omega)]
theorem g_kind {t : Nat} : (∀ i, mt_gu G' 201 t k 201 i = if i = t then k else G' 201 i) ∧ (∀ i, ¬ i = t → mt_gu G' 201 t k 202 i = G' 202 i ∧ mt_gu G' 201 t k 203 i = G' 203 i) := ⟨fun i => gu_s, fun i _ => ⟨gu_n (by decide), gu_n (by decide)⟩⟩
theorem t3_write (h6 : lc ≤ 6) (h : R3 lc mc bc N G N' G') (hM : MI N' G') : R3 lc mc bc (c_X3_write_N lc mc bc N G x y v) (c_X3_write_G lc mc bc N G x y v) (c_X4_write_N a1 a2 a3 N' G' x y v) (c_X4_write_G a1 a2 a3 N' G' x y v) := by
  have hR := t2_write (a1 := a1) (a2 := a2) (a3 := a3) (x := x) (y := y) (v := v) h6 h.1 hM
  refine ⟨hR, ?_⟩
  rcases s_write (a1 := a1) (a2 := a2) (a3 := a3) (x := x) (y := y) (v := v) h hM with ⟨ρ, T, o, hρ0, hρ, hT, ho, rfl, hv, -, e1, e2, e3⟩ | ⟨u, -, e0, e1, e2, e3⟩
  · have g := g_put (G' := G') (k := 1) (w := nI o) (v := v) (t := 341 * T + ρ)
    rw [e1, e2]
    refine ⟨RY.put h6 h.2.1 hT (by omega) hρ g.1 g.2.1 (fun _ => g.2.2) (fun _ => ⟨o, ho, rfl⟩) (fun _ => hv), RU.put h6 h.2.1 h.2.2.1 hT hρ g.1 g.2.1 (fun _ => g.2.2), ?_⟩
    rcases e3 with ⟨e3, e4⟩ | ⟨e3, e4⟩
    · rw [e3, e4]; show N 0 10 = N' 200 11 + 0; rw [Int32.add_zero]; exact h.2.2.2
    · rw [e3, e4]; show N 0 10 + 1 = N' 200 11 + 1; rw [h.2.2.2]
  · rw [e0, e1, e2, e3]; exact h.2
theorem t3_link (h6 : lc ≤ 6) (h : R3 lc mc bc N G N' G') (hM : MI N' G') : R3 lc mc bc (c_X3_link_N lc mc bc N G x y v) (c_X3_link_G lc mc bc N G x y v) (c_X4_link_N a1 a2 a3 N' G' x y v) (c_X4_link_G a1 a2 a3 N' G' x y v) := by
  have hR := t2_link (a1 := a1) (a2 := a2) (a3 := a3) (x := x) (y := y) (v := v) h6 h.1 hM
  refine ⟨hR, ?_⟩
  rcases s_link (a1 := a1) (a2 := a2) (a3 := a3) (x := x) (y := y) (v := v) h hM with ⟨ρ, T, o, hρ0, hρ, hT, ho, rfl, hv, -, e1, e2, e3⟩ | ⟨u, -, e0, e1, e2, e3⟩
  · have g := g_put (G' := G') (k := 2) (w := nI o) (v := v) (t := 341 * T + ρ)
    rw [e1, e2]
    refine ⟨RY.put h6 h.2.1 hT (by omega) hρ g.1 g.2.1 (fun _ => g.2.2) (fun _ => ⟨o, ho, rfl⟩) (fun q => absurd q (by decide)), RU.put h6 h.2.1 h.2.2.1 hT hρ g.1 g.2.1 (fun _ => g.2.2), ?_⟩
    rcases e3 with ⟨e3, e4⟩ | ⟨e3, e4⟩
    · rw [e3, e4]; show N 0 10 = N' 200 11 + 0; rw [Int32.add_zero]; exact h.2.2.2
    · rw [e3, e4]; show N 0 10 + 1 = N' 200 11 + 1; rw [h.2.2.2]
  · rw [e0, e1, e2, e3]; exact h.2
theorem t3_remove (h6 : lc ≤ 6) (h : R3 lc mc bc N G N' G') (hM : MI N' G') : R3 lc mc bc N (c_X3_remove_G lc mc bc N G x) (c_X4_remove_N a1 a2 a3 N' G' x) (c_X4_remove_G a1 a2 a3 N' G' x) := by
  have hR := t2_remove (a1 := a1) (a2 := a2) (a3 := a3) (x := x) h6 h.1 hM
  refine ⟨hR, ?_⟩
  rcases s_remove (a1 := a1) (a2 := a2) (a3 := a3) (x := x) h hM with ⟨ρ, T, K, hρ0, hρ, hT, hK, -, e1, e2, e3⟩ | ⟨u, -, e1, e2, e3⟩
  · have g := g_kind (G' := G') (k := K) (t := 341 * T + ρ)
    have n1 : ¬ (K = 1 ∨ K = 2) := by rcases hK with rfl | rfl <;> decide
    rw [e1, e2, e3]
    exact ⟨RY.put h6 h.2.1 hT (by omega) hρ g.1 g.2 (fun q => absurd q n1) (fun q => absurd q n1) (fun q => absurd (Or.inl q) n1), RU.put h6 h.2.1 h.2.2.1 hT hρ g.1 g.2 (fun q => absurd q n1), h.2.2.2⟩
  · rw [e1, e2, e3]; exact h.2
end SJ3

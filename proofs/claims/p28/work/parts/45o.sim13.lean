/-! backups, on both sides -/
section SM4
variable {lc mc bc mc1 bc1 a1 a2 a3 : Nat} {N G N1 G1 N' G' N2 G2 : Nat → Nat → Int32} {x y v k w b : Int32}
def RB (bc : Nat) (N G G' : Nat → Nat → Int32) : Prop := ∀ i, i < bc → N (160 + i) 0 = G' 214 i ∧ Bo (N (160 + i) 0) ∧ ∀ j, j < 2046 → (j < c_bn (N (160 + i) 0) → (G (170 + i) j = -1 ∨ ∃ n, n ≤ 9999 ∧ G (170 + i) j = nI n) ∧ G' 213 (2046 * i + j) = G (170 + i) j + 1) ∧ (¬ j < c_bn (N (160 + i) 0) → G' 213 (2046 * i + j) = 0)
theorem RB.congr (h : RB bc N G G') (h1 : ∀ i, i < bc → N1 (160 + i) 0 = N (160 + i) 0) (h2 : ∀ i j, i < bc → G1 (170 + i) j = G (170 + i) j) (h3 : ∀ i, i < bc → G2 214 i = G' 214 i) (h4 : ∀ i, i < 2046 * bc → G2 213 i = G' 213 i) : RB bc N1 G1 G2 := fun i hi => by
  obtain ⟨q1, q2, q3⟩ := h i hi
  rw [h1 i hi, h3 i hi]
  refine ⟨q1, q2, fun j hj => ?_⟩
  rw [h2 i j hi, h4 _ (by omega)]; exact q3 j hj
def R4 (lc mc bc : Nat) (N G N' G' : Nat → Nat → Int32) : Prop := R3 lc mc bc N G N' G' ∧ RB bc N G G'
theorem R4.b6 (h : R4 lc mc bc N G N' G') (hM : MI N' G') : bc ≤ 6 := by rw [h.1.1.1.1.2.2]; exact hM.2.2.1
theorem R4.hi (h : R4 lc mc bc N G N' G') (h8 : mc ≤ 8) (hN : HiE N' N2) (hG : HiE G' G2) : R4 lc mc bc N G N2 G2 := ⟨h.1.hi h8 hN hG, h.2.congr (fun _ _ => rfl) (fun _ _ _ => rfl) (fun i _ => hG _ _ (by decide)) (fun i _ => hG _ _ (by decide))⟩
theorem R4.lo (h : R4 lc mc bc N G N' G') (h6 : lc ≤ 6) (h8 : mc ≤ 8) (hb : bc ≤ 6) (hN : LoE N N1) (hG : LoE G G1) : R4 lc mc bc N1 G1 N' G' := ⟨h.1.lo h6 h8 hN hG, h.2.congr (fun i hi => hN _ _ (by omega)) (fun i j hi => hG _ _ (by omega)) (fun _ _ => rfl) (fun _ _ => rfl)⟩
/-- what leaves the backups alone -/
theorem R4.kp (h : R4 lc mc bc N G N' G') {lc1 mc1 : Nat} (hR : R3 lc1 mc1 bc N1 G1 N2 G2) (hb : bc ≤ 6) (h1 : ∀ i, i < 6 → N1 (160 + i) 0 = N (160 + i) 0) (h2 : ∀ i j, i < 6 → G1 (170 + i) j = G (170 + i) j) (h3 : ∀ i, G2 214 i = G' 214 i) (h4 : ∀ i, G2 213 i = G' 213 i) : R4 lc1 mc1 bc N1 G1 N2 G2 :=
  ⟨hR, h.2.congr (fun i hi => h1 i (by omega)) (fun i j hi => h2 i j (by omega)) (fun i _ => h3 i) (fun i _ => h4 i)⟩
theorem t4_same (h : R4 lc mc bc N G N' G') (ht : TO N' N2) : R4 lc mc bc N G N2 G' := ⟨t3_same h.1 ht, h.2⟩
theorem t4_hidden (h6 : lc ≤ 6) (h8 : mc ≤ 8) (hb : bc ≤ 6) (h : R4 lc mc bc N G N' G') (ht : TO N' N2) : R4 lc mc bc N (c_X3_hidden_G lc mc bc N G) N2 G' := h.kp (t3_hidden h6 h8 h.1 ht) hb (fun _ _ => rfl) (fun i j hi => sb_hidden h6 _ j (by omega)) (fun _ => rfl) (fun _ => rfl)
theorem t4_shownShare (h6 : lc ≤ 6) (h8 : mc ≤ 8) (hb : bc ≤ 6) (h : R4 lc mc bc N G N' G') (ht : TO N' N2) : R4 lc mc bc N (c_X3_shownShare_G lc mc bc N G) N2 G' := h.kp (t3_shownShare h6 h8 h.1 ht) hb (fun _ _ => rfl) (fun i j hi => sb_shownShare h6 _ j (by omega)) (fun _ => rfl) (fun _ => rfl)
theorem t4_write (h6 : lc ≤ 6) (h : R4 lc mc bc N G N' G') (hM : MI N' G') : R4 lc mc bc (c_X3_write_N lc mc bc N G x y v) (c_X3_write_G lc mc bc N G x y v) (c_X4_write_N a1 a2 a3 N' G' x y v) (c_X4_write_G a1 a2 a3 N' G' x y v) :=
  h.kp (t3_write h6 h.1 hM) (h.b6 hM) (fun i hi => sp_writeN _ _ (by omega)) (fun i j hi => sw_write h6 _ j (by omega)) (fun i => rG_write _ _ (by omega)) (fun i => rG_write _ _ (by omega))
theorem t4_link (h6 : lc ≤ 6) (h : R4 lc mc bc N G N' G') (hM : MI N' G') : R4 lc mc bc (c_X3_link_N lc mc bc N G x y v) (c_X3_link_G lc mc bc N G x y v) (c_X4_link_N a1 a2 a3 N' G' x y v) (c_X4_link_G a1 a2 a3 N' G' x y v) :=
  h.kp (t3_link h6 h.1 hM) (h.b6 hM) (fun i hi => sp_linkN _ _ (by omega)) (fun i j hi => sw_link h6 _ j (by omega)) (fun i => rG_link _ _ (by omega)) (fun i => rG_link _ _ (by omega))
theorem t4_remove (h6 : lc ≤ 6) (h : R4 lc mc bc N G N' G') (hM : MI N' G') : R4 lc mc bc N (c_X3_remove_G lc mc bc N G x) (c_X4_remove_N a1 a2 a3 N' G' x) (c_X4_remove_G a1 a2 a3 N' G' x) :=
  h.kp (t3_remove h6 h.1 hM) (h.b6 hM) (fun i hi => rfl) (fun i j hi => sw_remove h6 _ j (by omega)) (fun i => rG_remove _ _ (by omega)) (fun i => rG_remove _ _ (by omega))
theorem t4_setCrossing (h : R4 lc mc bc N G N' G') (hM : MI N' G') : R4 lc mc bc (c_X3_setCrossing_N lc mc bc N G x b) G (c_X4_setCrossing_N a1 a2 a3 N' G' x b) (c_X4_setCrossing_G a1 a2 a3 N' G' x b) := by
  have hR := t3_setCrossing (a1 := a1) (a2 := a2) (a3 := a3) (x := x) (b := b) h.1 hM
  have h8 := h.1.1.m8 hM
  rcases s_cross (lc := lc) (bc := bc) (G := G) (a1 := a1) (a2 := a2) (a3 := a3) (x := x) (b := b) hM h.1.1.1.1.2.1 h.1.1.1.2.1 with ⟨i, hi, -, -, -, e1, e2, e3⟩ | ⟨-, e1, e2, e3⟩
  · exact h.kp hR (h.b6 hM) (fun a ha => by rw [e1]; exact gu_n (by omega)) (fun _ _ _ => rfl) (fun a => by rw [e3]; exact gu_n (by decide)) (fun a => by rw [e3]; exact gu_n (by decide))
  · exact h.kp hR (h.b6 hM) (fun a ha => by rw [e1]) (fun _ _ _ => rfl) (fun a => by rw [e3]) (fun a => by rw [e3])
theorem t4_move (h : R4 lc mc bc N G N' G') (hM : MI N' G') : R4 lc mc bc (c_X3_move_N lc mc bc N G x y) (c_X3_move_G lc mc bc N G x y) (c_X4_move_N a1 a2 a3 N' G' x y) (c_X4_move_G a1 a2 a3 N' G' x y) := by
  have hR := t3_move (a1 := a1) (a2 := a2) (a3 := a3) (x := x) (y := y) h.1 hM
  have h8 := h.1.1.m8 hM
  rcases s_move (lc := lc) (bc := bc) (G := G) (a1 := a1) (a2 := a2) (a3 := a3) (x := x) (y := y) hM h.1.1.1.1.2.1 h.1.1.1.2.1 with ⟨i, hi, -, -, -, -, e1, e4, e2, e3⟩ | ⟨u, -, e1, e4, e2, e3⟩
  · exact h.kp hR (h.b6 hM) (fun a ha => by rw [e1]; exact gu_n (by omega)) (fun a j ha => ss_move _ j (by omega)) (fun a => by rw [e3]; exact gu_n (by decide)) (fun a => by rw [e3]; exact gu_n (by decide))
  · exact h.kp hR (h.b6 hM) (fun a ha => by rw [e1]) (fun a j ha => ss_move _ j (by omega)) (fun a => by rw [e3]) (fun a => by rw [e3])
theorem t4_unmount (h : R4 lc mc bc N G N' G') (hM : MI N' G') : R4 lc mc bc (c_X3_unmount_N lc mc bc N G x) (c_X3_unmount_G lc mc bc N G x) (c_X4_unmount_N a1 a2 a3 N' G' x) (c_X4_unmount_G a1 a2 a3 N' G' x) := by
  have hR := t3_unmount (a1 := a1) (a2 := a2) (a3 := a3) (x := x) h.1 hM
  have h8 := h.1.1.m8 hM
  rcases s_unmount (lc := lc) (bc := bc) (G := G) (a1 := a1) (a2 := a2) (a3 := a3) (x := x) hM h.1.1.1.1.2.1 h.1.1.1.2.1 with ⟨i, hi, -, -, e1, e4, e2, e3⟩ | ⟨-, e1, e4, e2, e3⟩
  · exact h.kp hR (h.b6 hM) (fun a ha => by rw [e1]; exact gu_n (by omega)) (fun a j ha => ss_unmount _ j (by omega)) (fun a => by rw [e3]; exact gu_n (by decide)) (fun a => by rw [e3]; exact gu_n (by decide))
  · exact h.kp hR (h.b6 hM) (fun a ha => by rw [e1]) (fun a j ha => ss_unmount _ j (by omega)) (fun a => by rw [e3]) (fun a => by rw [e3])
theorem t4_setQuota (h : R4 lc mc bc N G N' G') (hM : MI N' G') : R4 lc mc bc N (c_X3_setQuota_G lc mc bc N G x y) (c_X4_setQuota_N a1 a2 a3 N' G' x y) (c_X4_setQuota_G a1 a2 a3 N' G' x y) := by
  have hR := t3_setQuota (a1 := a1) (a2 := a2) (a3 := a3) (x := x) (y := y) h.1 hM
  rcases s_quota (lc := lc) (mc := mc) (bc := bc) (N := N) (N' := N') (a1 := a1) (a2 := a2) (a3 := a3) (x := x) (y := y) h.1.1.1.2.2 with ⟨j, hj, -, -, e1, e2, e3⟩ | ⟨-, e1, e2, e3⟩
  · exact h.kp hR (h.b6 hM) (fun _ _ => rfl) (fun a j ha => by rw [e1]; exact gu_n (by omega)) (fun a => by rw [e3]; exact gu_n (by decide)) (fun a => by rw [e3]; exact gu_n (by decide))
  · exact h.kp hR (h.b6 hM) (fun _ _ => rfl) (fun a j ha => by rw [e1]) (fun a => by rw [e3]) (fun a => by rw [e3])
theorem t4_mount_r (h : R4 lc mc bc N G N' G') (hM : MI N' G') {x0 : Int32} (hq : c_X3_mount lc mc bc N G x y v = .inr x0) : mc < 8 ∧ x0 = nI mc ∧ R4 lc (mc + 1) bc (mt_nm N mc x y v) (c_X3_serveAgain_G lc (mc + 1) bc (mt_nm N mc x y v) G) (c_X4_mount_N a1 a2 a3 N' G' x y v) (c_X4_mount_G a1 a2 a3 N' G' x y v) := by
  obtain ⟨h8, hx, hR⟩ := t3_mount_r (a1 := a1) (a2 := a2) (a3 := a3) h.1 hM hq
  refine ⟨h8, hx, ?_⟩
  rcases s_mount (lc := lc) (bc := bc) (G := G) (a1 := a1) (a2 := a2) (a3 := a3) (x := x) (y := y) (v := v) hM h.1.1.1.1.1 h.1.1.1.1.2.1 h.1.1.1.2.1 with ⟨-, -, -, hne, hlt, e0, e2, e3⟩ | ⟨⟨E, e0⟩, -⟩
  · refine h.kp hR (h.b6 hM) (fun a ha => ?_) (fun a j ha => ss_serveAgain _ j (by omega)) (fun a => ?_) (fun a => ?_)
    · unfold mt_nm; rw [if_neg (by omega)]
    · rw [e3, gu_n (by decide), gu_n (by decide), gu_n (by decide), gu_n (by decide), gu_n (by decide)]
    · rw [e3, gu_n (by decide), gu_n (by decide), gu_n (by decide), gu_n (by decide), gu_n (by decide)]
  · rw [hq] at e0; cases e0
theorem t4_mount_l (h : R4 lc mc bc N G N' G') (hM : MI N' G') {E : String} (hq : c_X3_mount lc mc bc N G x y v = .inl E) : R4 lc mc bc N G (c_X4_mount_N a1 a2 a3 N' G' x y v) (c_X4_mount_G a1 a2 a3 N' G' x y v) := by
  have hR := t3_mount_l (a1 := a1) (a2 := a2) (a3 := a3) h.1 hM hq
  rcases s_mount (lc := lc) (bc := bc) (G := G) (a1 := a1) (a2 := a2) (a3 := a3) (x := x) (y := y) (v := v) hM h.1.1.1.1.1 h.1.1.1.1.2.1 h.1.1.1.2.1 with ⟨-, -, -, hne, hlt, e0, e2, e3⟩ | ⟨-, ⟨u, e2⟩, e3⟩
  · rw [hq] at e0; cases e0
  · exact h.kp hR (h.b6 hM) (fun _ _ => rfl) (fun _ _ _ => rfl) (fun a => by rw [e3]) (fun a => by rw [e3])
theorem t4_addLayer_l (h : R4 lc mc bc N G N' G') (hM : MI N' G') {E : String} (hq : c_X3_addLayer lc mc bc N G = .inl E) : R4 lc mc bc N G (c_X4_addLayer_N a1 a2 a3 N' G') G' := ⟨t3_addLayer_l h.1 hM hq, h.2⟩
theorem t4_addLayer_r (h : R4 lc mc bc N G N' G') (hM : MI N' G') {x0 : Int32} (hq : c_X3_addLayer lc mc bc N G = .inr x0) : R4 (lc + 1) mc bc N (mt_g0 G lc) (c_X4_addLayer_N a1 a2 a3 N' G') G' := by
  have h6 := l6 hM h.1.1.1.1.1
  exact h.kp (t3_addLayer_r h.1 hM hq) (h.b6 hM) (fun _ _ => rfl) (fun a j ha => by unfold mt_g0; rw [if_neg (by omega)]) (fun _ => rfl) (fun _ => rfl)
/-- what a spot has now -/
theorem rk_0 : IsP (nI (pth 0)) ∧ rkI (nI (pth 0)) = 0 := isP_pth (by decide)
theorem now_e (h : R3 lc mc bc N G N' G') (hM : MI N' G') (hb : Bo b) {j : Nat} (hj : j < 2046) :
    (j < c_bn b → (c_X3_sizeNow lc mc bc N G b (nI j) = -1 ∨ ∃ n, n ≤ 9999 ∧ c_X3_sizeNow lc mc bc N G b (nI j) = nI n) ∧ c_X4_nowAt a1 a2 a3 N' G' b (nI j) = c_X3_sizeNow lc mc bc N G b (nI j) + 1) ∧ (¬ j < c_bn b → c_X4_nowAt a1 a2 a3 N' G' b (nI j) = 0) := by
  have h6 := l6 hM h.1.1.1.1
  unfold c_X4_nowAt c_X3_sizeNow
  have z0 : (0 : Int32) = -1 + 1 := by decide
  rcases hb with rfl | rfl
  · rw [if_pos rfl, if_pos rfl, show c_bn 0 = 2046 from rfl]
    refine ⟨fun _ => ?_, fun q => absurd hj q⟩
    have e1 : nI j / 341 = nI (j / 341) := by rw [show (341 : Int32) = nI 341 from rfl, nI_divN (by omega) (by decide)]
    have e2 : nI j - nI j / 341 * 341 = nI (j % 341) := by rw [show (341 : Int32) = nI 341 from rfl, nI_modN (by omega) (by decide)]
    have e3 : 341 * (j / 341) + j % 341 = j := Nat.div_add_mod j 341
    have hρ : j % 341 < 341 := Nat.mod_lt _ (by decide)
    rw [e2, e1, nI_clamp (by omega)]
    unfold c_X3_fileSizeIn c_X1_fileSizeAt
    by_cases hl : j / 341 < lc
    · rw [lay_nI hl h6, ocase_s rfl, ka hρ, va hρ, h.2.1.1 _ _ hl hρ, e3]
      by_cases c : G' 201 j = 1
      · obtain ⟨n, hn, hv⟩ := h.2.1.2.2.2.2.2 j hj c
        have q := (h.2.1.2.1 _ _ hl hρ (by rw [e3]; exact Or.inl c)).2
        rw [e3] at q
        rw [if_pos c, if_pos c, q]
        exact ⟨Or.inr ⟨n, hn, hv⟩, rfl⟩
      · rw [if_neg c, if_neg c]; exact ⟨Or.inl rfl, z0⟩
    · have e4 : c_X3_layerAt lc mc bc N G (nI (j / 341)) = none := by
        cases q : c_X3_layerAt lc mc bc N G (nI (j / 341)) with
        | none => rfl
        | some i =>
          obtain ⟨q1, q2⟩ := lay_some q
          have := (nI_eq (by omega) (by omega)).mp q2
          omega
      rw [e4, ocase_n rfl, h.2.1.2.2.1 j (by omega) hj, if_neg (by decide)]; exact ⟨Or.inl rfl, z0⟩
  · rw [if_neg one_ne, if_neg one_ne, show c_bn 1 = 341 from rfl]
    refine ⟨fun hlt => ?_, fun q => ?_⟩
    · have hx := isP_pth hlt
      rw [if_neg (show ¬ (341 : Int32) ≤ nI j from (in_r hlt).2.1), pathOf_eq hlt]
      have s9 := sfs (a1 := a1) (a2 := a2) (a3 := a3) h hM hx.1
      rw [hx.2] at s9
      by_cases c1 : nI j < 1
      · rw [if_pos c1]
        have hj0 : j = 0 := by
          rcases Nat.eq_zero_or_pos j with q | q
          · exact q
          · exact absurd c1 (by rw [show (1 : Int32) = nI 1 from rfl]; exact nI_nlt q (by omega))
        subst hj0
        have : c_X3_shownFileSize lc mc bc N G (nI 0) = -1 := by
          rcases sh (a1 := a1) (a2 := a2) (a3 := a3) h.1 h.2.1 hM hx.1 with ⟨j2, ρ, L, -, hρ0, hρ, -, -, w3, -⟩ | ⟨s1, -⟩
          · rw [hx.2, rat_r h.1.2 (by decide)] at w3
            have : svq G' mc 0 = 0 := by
              unfold svq
              split
              · rfl
              · unfold rsN; rw [Nat.zero_sub]; rfl
            rw [this] at w3
            exact absurd w3.symm (nI_ne0 hρ0 (by omega))
          · rw [hx.2] at s1
            unfold c_X3_shownFileSize c_X3_fileSizeIn
            rw [s1, lay_neg]; rfl
        rw [this]; exact ⟨Or.inl rfl, z0⟩
      · rw [if_neg c1]
        rcases s9 with ⟨f1, f2⟩ | ⟨i, hi, f1, ⟨c, ⟨n, hn, hv⟩, f2⟩ | ⟨c, f2⟩⟩
        · rw [f1, f2, if_pos rfl]; exact ⟨Or.inl rfl, z0⟩
        · rw [f1, f2, if_neg (neg_nI (by omega)), nI_clamp (by omega), if_pos c]; exact ⟨Or.inr ⟨n, hn, hv⟩, rfl⟩
        · rw [f1, f2, if_neg (neg_nI (by omega)), nI_clamp (by omega), if_neg (by rw [c]; decide)]; exact ⟨Or.inl rfl, z0⟩
    · have c1 : ¬ nI j < 1 := by rw [show (1 : Int32) = nI 1 from rfl]; exact nI_nlt (by omega) (by omega)
      have c2 : (341 : Int32) ≤ nI j := nI_le (a := 341) (b := j) (by omega) (by omega)
      rw [if_neg c1, if_pos c2]
theorem MI_bl {n : Nat} (hM : MI N' G') : MI N' (c_X4_backUp_lG a1 a2 a3 N' G' b n) := by
  induction n with
  | zero => exact hM
  | succ n ih => exact MI_k ih
theorem bl_R3 {n : Nat} (h : R3 lc mc bc N G N' G') (hM : MI N' G') : R3 lc mc bc N G N' (c_X4_backUp_lG a1 a2 a3 N' G' b n) := by
  have e : ∀ a r, ¬ a = 213 → c_X4_backUp_lG a1 a2 a3 N' G' b n a r = G' a r := fun a r ha => bl_ne ha
  exact h.kp (l6 hM h.1.1.1.1) ⟨h.1.1.keep (fun _ _ _ _ => rfl) (fun _ => rfl) (fun _ _ => rfl) (fun a r p q => e a r (by omega)), h.1.2.congr (h.1.m8 hM) (fun _ => rfl) (fun _ => rfl) (fun a _ => ⟨e _ _ (by decide), e _ _ (by decide)⟩)⟩ (fun _ _ _ => rfl) (fun a r p q => e a r (by omega)) rfl rfl
theorem bl_at (h : R3 lc mc bc N G N' G') (hM : MI N' G') (hb : Bo b) {n : Nat} (hn : n ≤ 2046) :
    (∀ i, i < 2046 * bc → c_X4_backUp_lG a1 a2 a3 N' G' b n 213 i = G' 213 i) ∧ ∀ j, j < n → (j < c_bn b → c_X4_backUp_lG a1 a2 a3 N' G' b n 213 (2046 * bc + j) = c_X3_sizeNow lc mc bc N G b (nI j) + 1) ∧ (¬ j < c_bn b → c_X4_backUp_lG a1 a2 a3 N' G' b n 213 (2046 * bc + j) = 0) := by
  have hbc := h.1.1.1.2.2
  induction n with
  | zero => exact ⟨fun _ _ => rfl, fun j hj => absurd hj (Nat.not_lt_zero j)⟩
  | succ n ih =>
    obtain ⟨i1, i2⟩ := ih (by omega)
    have hnow := now_e (a1 := a1) (a2 := a2) (a3 := a3) (b := b) (j := n) (bl_R3 (n := n) (a1 := a1) (a2 := a2) (a3 := a3) (b := b) h hM) (MI_bl hM) hb (by omega)
    rw [c_X4_backUp_lG, ← hbc]
    refine ⟨fun i hi => ?_, fun j hj => ?_⟩
    · rw [gu_s, if_neg (by omega)]; exact i1 i hi
    · rw [gu_s]
      by_cases e : j = n
      · subst e
        rw [if_pos rfl]
        exact ⟨fun q => (hnow.1 q).2, hnow.2⟩
      · rw [if_neg (by omega)]; exact i2 j (by omega)
theorem t4_backUp_l (h : R4 lc mc bc N G N' G') (hM : MI N' G') {E : String} (hq : c_X3_backUp lc mc bc N G x = .inl E) : R4 lc mc bc N G (c_X4_backUp_N a1 a2 a3 N' G' x) (c_X4_backUp_G a1 a2 a3 N' G' x) := by
  refine ⟨t3_backUp_l h.1 hM hq, ?_⟩
  obtain ⟨h1, -⟩ := bak_l (h.b6 hM) hq
  rcases ref_bak (a1 := a1) (a2 := a2) (a3 := a3) (b := x) hM h.1.1.1.1.2.2 with ⟨-, e1, e2⟩ | ⟨h2, -⟩
  · rw [e2]; exact h.2
  · omega
theorem c_bn_b (hb : Bo b) : c_bn b ≤ 2046 := by rcases hb with rfl | rfl <;> decide
theorem t4_backUp_r (h : R4 lc mc bc N G N' G') (hM : MI N' G') (hb : Bo x) {x0 : Int32} (hq : c_X3_backUp lc mc bc N G x = .inr x0) : R4 lc mc (bc + 1) (mt_nb N bc x) (mt_gb G bc (fun j => if j < c_bn x then c_X3_sizeNow lc mc bc N G x (nI j) else 0)) (c_X4_backUp_N a1 a2 a3 N' G' x) (c_X4_backUp_G a1 a2 a3 N' G' x) := by
  refine ⟨t3_backUp_r h.1 hM hq, ?_⟩
  obtain ⟨h1, -⟩ := bak_r (h.b6 hM) hq
  rcases ref_bak (a1 := a1) (a2 := a2) (a3 := a3) (b := x) hM h.1.1.1.1.2.2 with ⟨h2, -⟩ | ⟨-, e1, e2⟩
  · omega
  · rw [e2]
    obtain ⟨g1, g2⟩ := bl_at (a1 := a1) (a2 := a2) (a3 := a3) (b := x) (n := 2046) h.1 hM hb (Nat.le_refl _)
    intro i hi
    by_cases e : i = bc
    · subst e
      have n0 : mt_nb N i x (160 + i) 0 = x := by unfold mt_nb; rw [if_pos rfl, if_pos rfl]
      rw [n0, gu_s, if_pos rfl]
      refine ⟨rfl, hb, fun j hj => ?_⟩
      have ge : mt_gb G i (fun j => if j < c_bn x then c_X3_sizeNow lc mc i N G x (nI j) else 0) (170 + i) j = if j < c_bn x then c_X3_sizeNow lc mc i N G x (nI j) else 0 := by unfold mt_gb; rw [if_pos rfl]
      rw [ge, gu_n (by decide)]
      have hnow := now_e (a1 := a1) (a2 := a2) (a3 := a3) (b := x) (j := j) h.1 hM hb hj
      refine ⟨fun q => ?_, fun q => (g2 j hj).2 q⟩
      rw [if_pos q]; exact ⟨(hnow.1 q).1, (g2 j hj).1 q⟩
    · obtain ⟨q1, q2, q3⟩ := h.2 i (by omega)
      have n0 : mt_nb N bc x (160 + i) 0 = N (160 + i) 0 := by unfold mt_nb; rw [if_neg (by omega)]
      rw [n0, gu_s, if_neg e, bl_ne (by decide)]
      refine ⟨q1, q2, fun j hj => ?_⟩
      have ge : mt_gb G bc (fun j => if j < c_bn x then c_X3_sizeNow lc mc bc N G x (nI j) else 0) (170 + i) j = G (170 + i) j := by unfold mt_gb; rw [if_neg (by omega)]
      rw [ge, gu_n (by decide), g1 _ (by omega)]; exact q3 j hj
/-- the number is a backup's, on both sides or on none -/
theorem bak (hM : MI N' G') (hb : bc = bqN N') (x : Int32) : (∃ j, j < bc ∧ x = nI j ∧ c_X3_checkedBackup lc mc bc N G x = .inr j ∧ c_inI x 0 (N' 200 14 - 1) = 1) ∨ (c_X3_checkedBackup lc mc bc N G x = .inl "java/lang/IndexOutOfBoundsException" ∧ c_inI x 0 (N' 200 14 - 1) = 0) := by
  have h6 : bc ≤ 6 := by rw [hb]; exact hM.2.2.1
  rw [hM.2.2.2.2.2.1, ← hb]
  unfold c_X3_checkedBackup
  by_cases h1 : x < 0
  · right
    rw [if_pos h1]
    exact ⟨rfl, by unfold c_inI; rw [if_pos h1]⟩
  · obtain ⟨j, hj, rfl⟩ := nI_of h1
    rw [if_neg h1]
    by_cases hlt : j < bc
    · left
      rw [if_neg (show ¬ (6 : Int32) ≤ nI j from nI_ge (a := j) (b := 6) (by omega) (by decide)), nI_clamp hj, if_pos hlt]
      exact ⟨j, hlt, rfl, rfl, inI_nI hlt (by omega)⟩
    · right
      refine ⟨?_, ?_⟩
      · by_cases c : (6 : Int32) ≤ nI j
        · rw [if_pos c]
        · rw [if_neg c, nI_clamp hj, if_neg hlt]
      · by_cases c : c_inI (nI j) 0 (nI bc - 1) = 0
        · exact c
        · obtain ⟨i, hi, e⟩ := inI_n (n := bc) (by omega) c
          have := (nI_eq hj (by omega)).mp e
          omega
theorem su_sm {i n : Nat} : c_X0_sum_ln lc mc bc N G i n = sm (fun k => if G (170 + i) k = -1 then 0 else G (170 + i) k) n := by
  induction n with
  | zero => rfl
  | succ n ih =>
    rw [c_X0_sum_ln, ih, sm]
    by_cases c : G (170 + i) n = -1
    · rw [if_pos c]; simp [c]
    · rw [if_neg c]; simp [c]
theorem by_sm {n : Nat} : c_X4_bytes_ls a1 a2 a3 N' G' x n = sm (fun k => if G' 213 (2046 * x.toNatClampNeg + k) ≤ 0 then 0 else G' 213 (2046 * x.toNatClampNeg + k) - 1) n := by
  induction n with
  | zero => rfl
  | succ n ih =>
    rw [c_X4_bytes_ls, ih, sm]
    by_cases c : G' 213 (2046 * x.toNatClampNeg + n) ≤ 0
    · rw [if_pos c]; simp [c]
    · rw [if_neg c]; simp [c]
theorem q_bytes (h : R4 lc mc bc N G N' G') (hM : MI N' G') : (∃ w, c_X3_bytes lc mc bc N G x = .inr w ∧ c_X4_bytes a1 a2 a3 N' G' x = w ∧ c_X4_bytes_N a1 a2 a3 N' G' x 200 15 = 0)
    ∨ (∃ u : Int32, (u = 1 ∧ c_X3_bytes lc mc bc N G x = .inl "java/lang/IndexOutOfBoundsException") ∧ c_X4_bytes_N a1 a2 a3 N' G' x 200 15 = u) := by
  unfold c_X3_bytes c_X4_bytes c_X4_bytes_N
  rcases bak (lc := lc) (mc := mc) (N := N) (G := G) hM h.1.1.1.1.2.2 x with ⟨i, hi, rfl, q1, q2⟩ | ⟨q1, q2⟩
  · left
    rw [q1, q2]
    simp only [scase, if_neg one_ne]
    refine ⟨_, rfl, ?_, rfl⟩
    obtain ⟨b1, b2, b3⟩ := h.2 i hi
    have hle := c_bn_b b2
    have hi6 := h.b6 hM
    unfold c_X0_sum
    rw [by_sm, su_sm, nI_clamp (by omega), show 2046 = c_bn (N (160 + i) 0) + (2046 - c_bn (N (160 + i) 0)) by omega, sm_split, sm_zero (n := 2046 - c_bn (N (160 + i) 0)), Int32.add_zero]
    · refine sm_congr (fun k hk => ?_)
      obtain ⟨⟨p1, p2⟩, -⟩ := (fun q => ⟨(b3 k q).1 hk, (b3 k q).2⟩ : k < 2046 → _ ∧ _) (by omega)
      rw [show c_bn (N (160 + i) 0) + (2046 - c_bn (N (160 + i) 0)) = 2046 by omega, p2]
      rcases p1 with p1 | ⟨n, hn, p1⟩
      · rw [p1]; decide
      · rw [p1, nI_1, if_neg (neg_nI (by omega)), if_neg (nI_nle (by omega) (by omega)), nI_pred]
    · intro k hk
      have := (b3 (c_bn (N (160 + i) 0) + k) (by omega)).2 (by omega)
      rw [show c_bn (N (160 + i) 0) + (2046 - c_bn (N (160 + i) 0)) = 2046 by omega, this]; decide
  · right
    rw [q1, q2]
    exact ⟨1, ⟨rfl, rfl⟩, rfl⟩
theorem di_sm {i n : Nat} : c_X3_differences_ln lc mc bc N G x i n = sm (fun k => if G (170 + i) k = c_X3_sizeNow lc mc bc N G (N (160 + i) 0) (nI k) then 0 else 1) n := by
  induction n with
  | zero => rfl
  | succ n ih =>
    rw [c_X3_differences_ln, ih, sm]
    by_cases c : G (170 + i) n = c_X3_sizeNow lc mc bc N G (N (160 + i) 0) (nI n)
    · rw [if_pos c]; simp [c]
    · rw [if_neg c]; simp [c]
theorem dr_sm {n : Nat} : c_X4_differences_ls a1 a2 a3 N' G' x n = sm (fun k => if G' 213 (2046 * x.toNatClampNeg + k) = c_X4_nowAt a1 a2 a3 N' G' (G' 214 x.toNatClampNeg) (nI k) then 0 else 1) n := by
  induction n with
  | zero => rfl
  | succ n ih =>
    rw [c_X4_differences_ls, ih, sm]
    by_cases c : G' 213 (2046 * x.toNatClampNeg + n) = c_X4_nowAt a1 a2 a3 N' G' (G' 214 x.toNatClampNeg) (nI n)
    · rw [if_pos c]; simp [c]
    · rw [if_neg c]; simp [c]
theorem q_differences (h : R4 lc mc bc N G N' G') (hM : MI N' G') : (∃ w, c_X3_differences lc mc bc N G x = .inr w ∧ c_X4_differences a1 a2 a3 N' G' x = w ∧ c_X4_differences_N a1 a2 a3 N' G' x 200 15 = 0)
    ∨ (∃ u : Int32, (u = 1 ∧ c_X3_differences lc mc bc N G x = .inl "java/lang/IndexOutOfBoundsException") ∧ c_X4_differences_N a1 a2 a3 N' G' x 200 15 = u) := by
  unfold c_X3_differences c_X4_differences c_X4_differences_N
  rcases bak (lc := lc) (mc := mc) (N := N) (G := G) hM h.1.1.1.1.2.2 x with ⟨i, hi, rfl, q1, q2⟩ | ⟨q1, q2⟩
  · left
    rw [q1, q2]
    simp only [scase, if_neg one_ne]
    refine ⟨_, rfl, ?_, rfl⟩
    obtain ⟨b1, b2, b3⟩ := h.2 i hi
    have hle := c_bn_b b2
    have hi6 := h.b6 hM
    rw [dr_sm, di_sm, nI_clamp (by omega), ← b1]
    have key : sm (fun k => if G' 213 (2046 * i + k) = c_X4_nowAt a1 a2 a3 N' G' (N (160 + i) 0) (nI k) then (0 : Int32) else 1) (c_bn (N (160 + i) 0) + (2046 - c_bn (N (160 + i) 0))) = sm (fun k => if G (170 + i) k = c_X3_sizeNow lc mc bc N G (N (160 + i) 0) (nI k) then (0 : Int32) else 1) (c_bn (N (160 + i) 0)) := by
      rw [sm_split, sm_zero (n := 2046 - c_bn (N (160 + i) 0)), Int32.add_zero]
      · refine sm_congr (fun k hk => ?_)
        have p2 := ((b3 k (by omega)).1 hk).2
        have n2 := ((now_e (a1 := a1) (a2 := a2) (a3 := a3) (b := N (160 + i) 0) (j := k) h.1 hM b2 (by omega)).1 hk).2
        rw [p2, n2]
        by_cases c : G (170 + i) k = c_X3_sizeNow lc mc bc N G (N (160 + i) 0) (nI k)
        · rw [if_pos c, c, if_pos rfl]
        · rw [if_neg c, if_neg (fun q => c (by have := congrArg (fun z : Int32 => z - 1) q; simpa [Int32.add_sub_cancel] using this))]
      · intro k hk
        have p2 := (b3 (c_bn (N (160 + i) 0) + k) (by omega)).2 (by omega)
        have n2 := (now_e (a1 := a1) (a2 := a2) (a3 := a3) (b := N (160 + i) 0) (j := c_bn (N (160 + i) 0) + k) h.1 hM b2 (by omega)).2 (by omega)
        rw [p2, n2, if_pos rfl]
    rw [show c_bn (N (160 + i) 0) + (2046 - c_bn (N (160 + i) 0)) = 2046 by omega] at key
    exact key
  · right
    rw [q1, q2]
    exact ⟨1, ⟨rfl, rfl⟩, rfl⟩
end SM4

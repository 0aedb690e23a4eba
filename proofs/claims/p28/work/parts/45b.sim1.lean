/-! both sides side by side: owners, paths, mounts -/
section SA
variable {lc mc bc a1 a2 a3 : Nat} {N G N1 G1 N' G' : Nat → Nat → Int32} {x y v b : Int32}
-- numbers in a range
theorem ow_3 (h : ¬ c_X3_isOwner x = 0) : ∃ j, j < 4 ∧ x = nI j := by
  unfold c_X3_isOwner at h
  by_cases h1 : x < 0
  · rw [if_pos h1] at h; exact absurd rfl h
  · rw [if_neg h1] at h
    by_cases h2 : 4 ≤ x
    · rw [if_pos h2] at h; exact absurd rfl h
    · obtain ⟨j, hj, rfl⟩ := nI_of h1
      refine ⟨j, ?_, rfl⟩
      rcases Nat.lt_or_ge j 4 with q | q
      · exact q
      · exact absurd (nI_le (a := 4) q hj) h2
theorem ow_3n : ∀ j, j < 4 → c_X3_isOwner (nI j) = 1 := by decide +kernel
theorem ow_4n : ∀ j, j < 4 → c_X4_isOwner (nI j) = 1 := by decide +kernel
theorem ow_4 (h : ¬ c_X4_isOwner x = 0) : ∃ j, j < 4 ∧ x = nI j := inI_n (n := 4) (by decide) h
/-- the owner is one on both sides, or on none -/
theorem ow (x : Int32) : (∃ j, j < 4 ∧ x = nI j ∧ c_X3_isOwner x = 1 ∧ c_X4_isOwner x = 1) ∨ (c_X3_isOwner x = 0 ∧ c_X4_isOwner x = 0) := by
  by_cases h : c_X3_isOwner x = 0
  · refine Or.inr ⟨h, ?_⟩
    by_cases h2 : c_X4_isOwner x = 0
    · exact h2
    · obtain ⟨j, hj, rfl⟩ := ow_4 h2
      rw [ow_3n j hj] at h; exact absurd h (by decide)
  · obtain ⟨j, hj, rfl⟩ := ow_3 h
    exact Or.inl ⟨j, hj, rfl, ow_3n j hj, ow_4n j hj⟩
-- the layers' numbers
theorem lay_nI {j : Nat} (h : j < lc) (h6 : lc ≤ 6) : c_X3_layerAt lc mc bc N G (nI j) = some j := by
  unfold c_X3_layerAt
  rw [if_neg (nI_pos (by omega)), if_neg (show ¬ (6 : Int32) ≤ nI j from nI_ge (a := j) (b := 6) (by omega) (by decide)), nI_clamp (by omega), if_pos h]
theorem lay_some {i : Nat} (h : c_X3_layerAt lc mc bc N G x = some i) : i < lc ∧ x = nI i := by
  have hi := c_layerAt_lt h
  unfold c_X3_layerAt at h
  by_cases h1 : x < 0
  · rw [if_pos h1] at h; cases h
  · rw [if_neg h1] at h
    by_cases h2 : 6 ≤ x
    · rw [if_pos h2] at h; cases h
    · rw [if_neg h2] at h
      by_cases h3 : x.toNatClampNeg < lc
      · rw [if_pos h3] at h; cases h
        obtain ⟨j, hj, rfl⟩ := nI_of h1
        rw [nI_clamp hj] at hi ⊢; exact ⟨hi, rfl⟩
      · rw [if_neg h3] at h; cases h
theorem inI_nI {n j : Nat} (h : j < n) (hn : n < 2 ^ 31) : c_inI (nI j) 0 (nI n - 1) = 1 := by
  unfold c_inI
  cases n with
  | zero => omega
  | succ n =>
    rw [nI_pred, if_neg (nI_pos (by omega)), if_neg (nI_nlt (by omega) (by omega))]
/-- the number is a layer's on both sides, or on none -/
theorem lay (hM : MI N' G') (hl : lc = lqN N') (x : Int32) : (∃ j, j < lc ∧ x = nI j ∧ c_X3_layerAt lc mc bc N G x = some j ∧ c_X4_isLayer a1 a2 a3 N' G' x = 1) ∨ (c_X3_layerAt lc mc bc N G x = none ∧ c_X4_isLayer a1 a2 a3 N' G' x = 0) := by
  have h6 : lc ≤ 6 := by rw [hl]; exact hM.1
  by_cases h : c_X4_isLayer a1 a2 a3 N' G' x = 0
  · refine Or.inr ⟨?_, h⟩
    cases e : c_X3_layerAt lc mc bc N G x with
    | none => rfl
    | some i =>
      obtain ⟨hi, rfl⟩ := lay_some e
      unfold c_X4_isLayer at h
      rw [hM.2.2.2.1, inI_nI (by omega) (by omega)] at h
      exact absurd h (by decide)
  · obtain ⟨j, hj, rfl⟩ := inI_l hM h
    refine Or.inl ⟨j, by omega, rfl, lay_nI (by omega) h6, ?_⟩
    unfold c_X4_isLayer
    rw [hM.2.2.2.1, inI_nI (by omega) (by omega)]
-- the paths
theorem pl_all : (List.range 4445).all (fun a => decide (c_X3_placeOf (nI a) = if okd 4 a then nI (rk a) else -1)) = true := by decide +kernel
theorem pl_at {a : Nat} (ha : a ≤ 4444) : c_X3_placeOf (nI a) = if okd 4 a then nI (rk a) else -1 := by
  have h := List.all_eq_true.mp pl_all a (List.mem_range.mpr (by omega))
  simpa using h
theorem pl_P (h : IsP x) : c_X3_placeOf x = nI (rkI x) := by
  have e := pl_at (pt_le _ h.2)
  rw [pt_ok _ h.2, if_pos rfl, pt_rk _ h.2, ← h.1] at e
  exact e
theorem pl_of (h : ¬ c_X3_placeOf x = -1) : IsP x := by
  by_cases h0 : x < 0
  · exact absurd (by unfold c_X3_placeOf; rw [if_pos h0]) h
  · by_cases h1 : x ≤ 4444
    · obtain ⟨j, hj, rfl⟩ := nI_of2 (M := 4444) (n := 4444) (by decide) h0 h1
      rw [pl_at hj] at h
      by_cases h2 : okd 4 j = true
      · obtain ⟨q1, q2⟩ := pt_of hj h2
        unfold IsP rkI
        rw [nI_clamp (by omega), q2]
        exact ⟨rfl, q1⟩
      · rw [if_neg h2] at h; exact absurd rfl h
    · exact absurd (by unfold c_X3_placeOf; rw [if_neg h0, if_neg h1]) h
/-- the number is a path on both sides, or on none -/
theorem pa (x : Int32) : (IsP x ∧ c_X3_placeOf x = nI (rkI x) ∧ ¬ c_X3_placeOf x = -1 ∧ c_X4_isPath x = 1) ∨ (¬ IsP x ∧ c_X3_placeOf x = -1 ∧ c_X4_isPath x = 0) := by
  by_cases h : IsP x
  · refine Or.inl ⟨h, pl_P h, ?_, isP_1 h⟩
    rw [pl_P h]
    intro q
    exact nI_pos (n := rkI x) (by have := h.2; omega) (by rw [q]; decide)
  · refine Or.inr ⟨h, ?_, ?_⟩
    · by_cases h2 : c_X3_placeOf x = -1
      · exact h2
      · exact absurd (pl_of h2) h
    · by_cases h2 : c_X4_isPath x = 0
      · exact h2
      · exact absurd (isP_of h2) h
theorem cp_P (h : IsP x) : c_X3_checkedPlace x = .inr (nI (rkI x)) := by
  rcases pa x with ⟨-, h1, h2, -⟩ | ⟨h1, -⟩
  · unfold c_X3_checkedPlace; rw [if_neg h2, h1]
  · exact absurd h h1
theorem cp_N (h : ¬ IsP x) : c_X3_checkedPlace x = .inl "java/lang/IllegalArgumentException" := by
  rcases pa x with ⟨h1, -⟩ | ⟨-, h1, -⟩
  · exact absurd h1 h
  · unfold c_X3_checkedPlace; rw [if_pos h1]
theorem ip_N (h : ¬ IsP x) : c_X4_isPath x = 0 := by
  rcases pa x with ⟨h1, -⟩ | ⟨-, -, h1⟩
  · exact absurd h1 h
  · exact h1
-- the mounts
def RM (mc : Nat) (N G' : Nat → Nat → Int32) : Prop := ∀ i, i < mc → G' 205 i = N (150 + i) 2 ∧ G' 206 i = N (150 + i) 0 ∧ G' 207 i = N (150 + i) 1 ∧ G' 208 i = N (150 + i) 3 ∧ G' 209 i = N (150 + i) 4 ∧ ¬ N (150 + i) 0 = N (150 + i) 1
theorem RM.congr (h : RM mc N G) (h1 : ∀ i j, i < mc → j < 5 → N1 (150 + i) j = N (150 + i) j) (h2 : ∀ i k, i < mc → 205 ≤ k → k < 210 → G1 k i = G k i) : RM mc N1 G1 := fun i hi => by
  obtain ⟨q1, q2, q3, q4, q5, q6⟩ := h i hi
  rw [h1 i 0 hi (by decide), h1 i 1 hi (by decide), h1 i 2 hi (by decide), h1 i 3 hi (by decide), h1 i 4 hi (by decide), h2 i 205 hi (by decide) (by decide), h2 i 206 hi (by decide) (by decide), h2 i 207 hi (by decide) (by decide), h2 i 208 hi (by decide) (by decide), h2 i 209 hi (by decide) (by decide)]
  exact ⟨q1, q2, q3, q4, q5, q6⟩
theorem mth_k {k : Nat} (h8 : mc ≤ 8) (hk : k < mc) : c_X3_mountThere lc mc bc N G (nI k) = if N (150 + k) 3 = 0 then none else some k := by
  unfold c_X3_mountThere
  rw [if_neg (nI_pos (by omega)), if_pos (show nI k < (8 : Int32) from nI_lt (a := k) (b := 8) (by omega) (by decide)), nI_clamp (by omega), if_pos hk]
theorem mth_some {i : Nat} (h8 : mc ≤ 8) (h : c_X3_mountThere lc mc bc N G x = some i) : i < mc ∧ x = nI i ∧ ¬ N (150 + i) 3 = 0 := by
  have hi := c_mountThere_lt h
  unfold c_X3_mountThere at h
  by_cases h1 : x < 0
  · rw [if_pos h1] at h; cases h
  · rw [if_neg h1] at h
    by_cases h2 : x < 8
    · rw [if_pos h2] at h
      by_cases h3 : x.toNatClampNeg < mc
      · rw [if_pos h3] at h
        by_cases h4 : N (150 + x.toNatClampNeg) 3 = 0
        · rw [if_pos h4] at h; cases h
        · rw [if_neg h4] at h; cases h
          obtain ⟨j, hj, rfl⟩ := nI_of h1
          rw [nI_clamp hj] at hi h4 ⊢; exact ⟨hi, rfl, h4⟩
      · rw [if_neg h3] at h; cases h
    · rw [if_neg h2] at h; cases h
/-- the number is a mount's that is there, on both sides or on none -/
theorem mou (hM : MI N' G') (hm : mc = mqN N') (hR : RM mc N G') (x : Int32) : (∃ i, i < mc ∧ x = nI i ∧ ¬ N (150 + i) 3 = 0 ∧ c_X3_mountThere lc mc bc N G x = some i ∧ c_X4_isMount a1 a2 a3 N' G' x = 1) ∨ (c_X3_mountThere lc mc bc N G x = none ∧ c_X4_isMount a1 a2 a3 N' G' x = 0) := by
  have h8 : mc ≤ 8 := by rw [hm]; exact hM.2.1
  cases e : c_X3_mountThere lc mc bc N G x with
  | some i =>
    obtain ⟨hi, rfl, h3⟩ := mth_some h8 e
    refine Or.inl ⟨i, hi, rfl, h3, rfl, ?_⟩
    unfold c_X4_isMount
    rw [hM.2.2.2.2.1, inI_nI (by omega) (by omega), if_neg (by decide), nI_clamp (by omega), (hR i hi).2.2.2.1, if_neg h3]
  | none =>
    refine Or.inr ⟨rfl, ?_⟩
    unfold c_X4_isMount
    by_cases h : c_inI x 0 (N' 200 9 - 1) = 0
    · rw [if_pos h]
    · obtain ⟨j, hj, rfl⟩ := inI_m hM h
      rw [mth_k h8 (by omega)] at e
      rw [if_neg h, nI_clamp (by omega), (hR j (by omega)).2.2.2.1]
      by_cases h3 : N (150 + j) 3 = 0
      · rw [if_pos h3]
      · rw [if_neg h3] at e; cases e
theorem chm_s {i : Nat} (h : c_X3_mountThere lc mc bc N G x = some i) : c_X3_checkedMount lc mc bc N G x = .inr i := by unfold c_X3_checkedMount; rw [h]; rfl
theorem chm_n (h : c_X3_mountThere lc mc bc N G x = none) : c_X3_checkedMount lc mc bc N G x = .inl "java/lang/IndexOutOfBoundsException" := by unfold c_X3_checkedMount; rw [h]; rfl
theorem one_ne : ¬ (1 : Int32) = 0 := by decide
/-- what 'setCrossing' says and does on both sides -/
theorem s_cross (hM : MI N' G') (hm : mc = mqN N') (hR : RM mc N G') :
    (∃ i, i < mc ∧ x = nI i ∧ c_X3_setCrossing lc mc bc N G x b = .inr (N (150 + i) 4) ∧ c_X4_setCrossing a1 a2 a3 N' G' x b = N (150 + i) 4 ∧ c_X3_setCrossing_N lc mc bc N G x b = mt_gu N (150 + i) 4 b ∧ c_X4_setCrossing_N a1 a2 a3 N' G' x b = mt_gu N' 200 15 0 ∧ c_X4_setCrossing_G a1 a2 a3 N' G' x b = mt_gu G' 209 i b)
    ∨ (c_X3_setCrossing lc mc bc N G x b = .inl "java/lang/IndexOutOfBoundsException" ∧ c_X3_setCrossing_N lc mc bc N G x b = N ∧ c_X4_setCrossing_N a1 a2 a3 N' G' x b = mt_gu N' 200 15 1 ∧ c_X4_setCrossing_G a1 a2 a3 N' G' x b = G') := by
  have h8 : mc ≤ 8 := by rw [hm]; exact hM.2.1
  unfold c_X3_setCrossing c_X4_setCrossing c_X3_setCrossing_N c_X4_setCrossing_N c_X4_setCrossing_G
  rcases mou (lc := lc) (bc := bc) (G := G) (a1 := a1) (a2 := a2) (a3 := a3) hM hm hR x with ⟨i, hi, rfl, h3, h4, h5⟩ | ⟨h4, h5⟩
  · rw [chm_s h4, h5, nI_clamp (by omega), (hR i hi).2.2.2.2.1]
    exact Or.inl ⟨i, hi, rfl, rfl, rfl, rfl, rfl, rfl⟩
  · rw [chm_n h4, h5]
    exact Or.inr ⟨rfl, rfl, rfl, rfl⟩
theorem RM.set (h : RM mc N G') {i a k : Nat} (ha : a < 5) (hk : (a = 2 ∧ k = 205) ∨ (a = 3 ∧ k = 208) ∨ (a = 4 ∧ k = 209)) : RM mc (mt_gu N (150 + i) a v) (mt_gu G' k i v) := fun j hj => by
  obtain ⟨q1, q2, q3, q4, q5, q6⟩ := h j hj
  by_cases e : j = i
  · subst e
    rcases hk with ⟨rfl, rfl⟩ | ⟨rfl, rfl⟩ | ⟨rfl, rfl⟩ <;> simp [mt_gu, q1, q2, q3, q4, q5, q6]
  · have e2 : ¬ 150 + j = 150 + i := by omega
    simp [mt_gu, e, q1, q2, q3, q4, q5, q6]
/-- 'move' -/
theorem s_move (hM : MI N' G') (hm : mc = mqN N') (hR : RM mc N G') :
    (∃ i, i < mc ∧ x = nI i ∧ IsP y ∧ c_X3_move lc mc bc N G x y = .inr (N (150 + i) 2) ∧ c_X4_move a1 a2 a3 N' G' x y = N (150 + i) 2 ∧ c_X3_move_N lc mc bc N G x y = mt_gu N (150 + i) 2 y ∧ c_X3_move_G lc mc bc N G x y = c_X3_serveAgain_G lc mc bc (mt_gu N (150 + i) 2 y) G ∧ c_X4_move_N a1 a2 a3 N' G' x y = mt_gu N' 200 15 0 ∧ c_X4_move_G a1 a2 a3 N' G' x y = mt_gu G' 205 i y)
    ∨ (∃ v : Int32, ((v = 1 ∧ c_X3_move lc mc bc N G x y = .inl "java/lang/IndexOutOfBoundsException") ∨ (v = 2 ∧ c_X3_move lc mc bc N G x y = .inl "java/lang/IllegalArgumentException")) ∧ c_X3_move_N lc mc bc N G x y = N ∧ c_X3_move_G lc mc bc N G x y = G ∧ c_X4_move_N a1 a2 a3 N' G' x y = mt_gu N' 200 15 v ∧ c_X4_move_G a1 a2 a3 N' G' x y = G') := by
  have h8 : mc ≤ 8 := by rw [hm]; exact hM.2.1
  unfold c_X3_move c_X4_move c_X3_move_N c_X3_move_G c_X4_move_N c_X4_move_G
  rcases mou (lc := lc) (bc := bc) (G := G) (a1 := a1) (a2 := a2) (a3 := a3) hM hm hR x with ⟨i, hi, rfl, h3, h4, h5⟩ | ⟨h4, h5⟩
  · by_cases hy : IsP y
    · rw [chm_s h4, h5, nI_clamp (by omega), (hR i hi).1, isP_1 hy, cp_P hy]
      exact Or.inl ⟨i, hi, rfl, hy, rfl, rfl, rfl, rfl, rfl, rfl⟩
    · rw [chm_s h4, h5, ip_N hy, cp_N hy]
      exact Or.inr ⟨2, Or.inr ⟨rfl, rfl⟩, rfl, rfl, rfl, rfl⟩
  · rw [chm_n h4, h5]
    exact Or.inr ⟨1, Or.inl ⟨rfl, rfl⟩, rfl, rfl, rfl, rfl⟩
/-- 'unmount' -/
theorem un_n (h8 : mc ≤ 8) {n : Nat} (hn : n ≤ mc) (h : ∀ i, i < mc → G1 208 i = N1 (150 + i) 3) : c_X3_unmount_ln lc mc bc N1 G x n = c_X4_unmount_ls G1 y n := by
  induction n with
  | zero => rfl
  | succ n ih =>
    rw [c_X3_unmount_ln, c_X4_unmount_ls, mth_k h8 (by omega), h n (by omega), ← ih (by omega)]
    by_cases e : N1 (150 + n) 3 = 0
    · rw [if_pos e, if_pos e, Int32.add_zero]; rfl
    · rw [if_neg e, if_neg e]; rfl
theorem s_unmount (hM : MI N' G') (hm : mc = mqN N') (hR : RM mc N G') :
    (∃ i, i < mc ∧ x = nI i ∧ (∃ w, c_X3_unmount lc mc bc N G x = .inr w ∧ c_X4_unmount a1 a2 a3 N' G' x = w) ∧ c_X3_unmount_N lc mc bc N G x = mt_gu N (150 + i) 3 0 ∧ c_X3_unmount_G lc mc bc N G x = c_X3_serveAgain_G lc mc bc (mt_gu N (150 + i) 3 0) G ∧ c_X4_unmount_N a1 a2 a3 N' G' x = mt_gu N' 200 15 0 ∧ c_X4_unmount_G a1 a2 a3 N' G' x = mt_gu G' 208 i 0)
    ∨ (c_X3_unmount lc mc bc N G x = .inl "java/lang/IndexOutOfBoundsException" ∧ c_X3_unmount_N lc mc bc N G x = N ∧ c_X3_unmount_G lc mc bc N G x = G ∧ c_X4_unmount_N a1 a2 a3 N' G' x = mt_gu N' 200 15 1 ∧ c_X4_unmount_G a1 a2 a3 N' G' x = G') := by
  have h8 : mc ≤ 8 := by rw [hm]; exact hM.2.1
  unfold c_X3_unmount c_X4_unmount c_X3_unmount_N c_X3_unmount_G c_X4_unmount_N c_X4_unmount_G
  rcases mou (lc := lc) (bc := bc) (G := G) (a1 := a1) (a2 := a2) (a3 := a3) hM hm hR x with ⟨i, hi, rfl, h3, h4, h5⟩ | ⟨h4, h5⟩
  · rw [chm_s h4, h5, nI_clamp (by omega)]
    refine Or.inl ⟨i, hi, rfl, ⟨_, rfl, ?_⟩, rfl, rfl, rfl, rfl⟩
    rw [if_neg one_ne, ← hm]
    exact (un_n h8 (Nat.le_refl _) (fun j hj => (hR.set (v := 0) (i := i) (a := 3) (k := 208) (by decide) (Or.inr (Or.inl ⟨rfl, rfl⟩)) j hj).2.2.2.1)).symm
  · rw [chm_n h4, h5]
    exact Or.inr ⟨rfl, rfl, rfl, rfl, rfl⟩
-- the quotas
def RQ (G G' : Nat → Nat → Int32) : Prop := ∀ j, j < 4 → G 5 j = G' 211 j
theorem s_quota (hQ : RQ G G') :
    (∃ j, j < 4 ∧ x = nI j ∧ (∃ w, c_X3_setQuota lc mc bc N G x y = .inr w ∧ c_X4_setQuota a1 a2 a3 N' G' x y = w) ∧ c_X3_setQuota_G lc mc bc N G x y = mt_gu G 5 j y ∧ c_X4_setQuota_N a1 a2 a3 N' G' x y = mt_gu N' 200 15 0 ∧ c_X4_setQuota_G a1 a2 a3 N' G' x y = mt_gu G' 211 j y)
    ∨ (c_X3_setQuota lc mc bc N G x y = .inl "java/lang/IllegalArgumentException" ∧ c_X3_setQuota_G lc mc bc N G x y = G ∧ c_X4_setQuota_N a1 a2 a3 N' G' x y = mt_gu N' 200 15 1 ∧ c_X4_setQuota_G a1 a2 a3 N' G' x y = G') := by
  unfold c_X3_setQuota c_X4_setQuota c_X3_setQuota_G c_X4_setQuota_N c_X4_setQuota_G
  rcases ow x with ⟨j, hj, rfl, h3, h4⟩ | ⟨h3, h4⟩
  · have hco : c_X3_checkOwner (nI j) = .inr () := by unfold c_X3_checkOwner; rw [h3, if_neg one_ne]
    rw [hco, h3, h4]
    by_cases h0 : y < 0
    · right
      have e : c_inI y 0 99999 = 0 := by unfold c_inI; rw [if_pos h0]
      rw [e]
      exact ⟨if_pos h0, if_pos h0, rfl, rfl⟩
    · by_cases h9 : y ≤ 99999
      · left
        have e : c_inI y 0 99999 = 1 := by unfold c_inI; rw [if_neg h0, if_neg (Int32.not_lt.mpr h9)]
        rw [e]
        have hq : c_X3_quotaOf lc mc bc N G (nI j) = G' 211 j := by
          unfold c_X3_quotaOf
          rw [h3, if_neg one_ne, nI_clamp (by omega)]; exact hQ j hj
        refine ⟨j, hj, rfl, ⟨c_X3_quotaOf lc mc bc N G (nI j), (if_neg h0).trans ((if_pos h9).trans (if_neg one_ne)), ?_⟩, (if_neg h0).trans ((if_pos h9).trans ((if_neg one_ne).trans ?_)), rfl, (if_neg one_ne).trans ((if_neg one_ne).trans ?_)⟩
        · rw [hq, nI_clamp (by omega)]; rfl
        · rw [nI_clamp (by omega)]
        · rw [nI_clamp (by omega)]
      · right
        have e : c_inI y 0 99999 = 0 := by unfold c_inI; rw [if_neg h0, if_pos (Int32.not_le.mp h9)]
        rw [e]
        exact ⟨(if_neg h0).trans (if_neg h9), (if_neg h0).trans (if_neg h9), rfl, rfl⟩
  · have hco : c_X3_checkOwner x = .inl "java/lang/IllegalArgumentException" := by unfold c_X3_checkOwner; rw [h3, if_pos rfl]
    rw [hco, h3, h4]
    exact Or.inr ⟨rfl, rfl, rfl, rfl⟩
theorem RQ.set (h : RQ G G') {j : Nat} : RQ (mt_gu G 5 j y) (mt_gu G' 211 j y) := fun i hi => by
  have := h i hi
  by_cases e : i = j
  · subst e; simp [mt_gu]
  · simp [mt_gu, e, this]
-- which layers are in use
theorem up_eq (hm : mc = mqN N') (h8 : mc ≤ 8) (hR : RM mc N G') (y : Int32) : (c_X3_isUpperOfSome lc mc bc N G y = 0 ↔ c_X4_isUpper a1 a2 a3 N' G' y = 0) := by
  have key : ∀ n, n ≤ mc → (c_any (c_upAt lc mc bc N G y) n = true ↔ ¬ c_X4_isUpper_ls a1 a2 a3 N' G' y n = 0) := by
    intro n
    induction n with
    | zero => intro _; exact ⟨fun h => (by cases h), fun h => absurd rfl h⟩
    | succ n ih =>
      intro hn
      have h1 := ih (by omega)
      rw [c_any, c_X4_isUpper_ls, c_upAt, mth_k h8 (by omega), (hR n (by omega)).2.2.2.1, (hR n (by omega)).2.2.1]
      by_cases e : c_X4_isUpper_ls a1 a2 a3 N' G' y n = 0
      · have e2 : c_any (c_upAt lc mc bc N G y) n = false := by
          cases q : c_any (c_upAt lc mc bc N G y) n with
          | false => rfl
          | true => exact absurd e (h1.mp q)
        rw [if_pos e, e2, Bool.false_or]
        by_cases e3 : N (150 + n) 3 = 0
        · rw [if_pos e3, if_pos e3]; exact ⟨fun h => (by cases h), fun h => absurd rfl h⟩
        · rw [if_neg e3, if_neg e3]
          show decide (N (150 + n) 1 = y) = true ↔ _
          by_cases e4 : N (150 + n) 1 = y
          · rw [if_pos e4]; exact ⟨fun _ => one_ne, fun _ => decide_eq_true e4⟩
          · rw [if_neg e4]; exact ⟨fun h => absurd (of_decide_eq_true h) e4, fun h => absurd rfl h⟩
      · rw [if_neg e, h1.mpr e, Bool.true_or]; exact ⟨fun _ => one_ne, fun _ => rfl⟩
  unfold c_X3_isUpperOfSome c_X4_isUpper
  rw [← hm]
  have h := key mc (Nat.le_refl _)
  by_cases e : c_any (c_upAt lc mc bc N G y) mc = true
  · rw [if_pos e]; exact ⟨fun q => absurd q one_ne, fun q => absurd q (h.mp e)⟩
  · rw [if_neg e]
    refine ⟨fun _ => ?_, fun _ => rfl⟩
    by_cases q : c_X4_isUpper_ls a1 a2 a3 N' G' y mc = 0
    · exact q
    · exact absurd (h.mpr q) e
theorem us_eq (hm : mc = mqN N') (h8 : mc ≤ 8) (hR : RM mc N G') (y : Int32) : (c_X3_isInSome lc mc bc N G y = 0 ↔ c_X4_isUsed a1 a2 a3 N' G' y = 0) := by
  have key : ∀ n, n ≤ mc → (c_any (c_inAt lc mc bc N G y) n = true ↔ ¬ c_X4_isUsed_ls a1 a2 a3 N' G' y n = 0) := by
    intro n
    induction n with
    | zero => intro _; exact ⟨fun h => (by cases h), fun h => absurd rfl h⟩
    | succ n ih =>
      intro hn
      have h1 := ih (by omega)
      rw [c_any, c_X4_isUsed_ls, c_inAt, mth_k h8 (by omega), (hR n (by omega)).2.2.2.1, (hR n (by omega)).2.2.1, (hR n (by omega)).2.1]
      by_cases e : c_X4_isUsed_ls a1 a2 a3 N' G' y n = 0
      · have e2 : c_any (c_inAt lc mc bc N G y) n = false := by
          cases q : c_any (c_inAt lc mc bc N G y) n with
          | false => rfl
          | true => exact absurd e (h1.mp q)
        rw [if_pos e, e2, Bool.false_or]
        by_cases e3 : N (150 + n) 3 = 0
        · rw [if_pos e3, if_pos e3]; exact ⟨fun h => (by cases h), fun h => absurd rfl h⟩
        · rw [if_neg e3, if_neg e3]
          show (decide (N (150 + n) 1 = y) || decide (N (150 + n) 0 = y)) = true ↔ _
          by_cases e4 : N (150 + n) 1 = y
          · rw [if_pos e4, decide_eq_true e4]; exact ⟨fun _ => one_ne, fun _ => rfl⟩
          · rw [if_neg e4, decide_eq_false e4, Bool.false_or]
            by_cases e5 : N (150 + n) 0 = y
            · rw [if_pos e5]; exact ⟨fun _ => one_ne, fun _ => decide_eq_true e5⟩
            · rw [if_neg e5]; exact ⟨fun h => absurd (of_decide_eq_true h) e5, fun h => absurd rfl h⟩
      · rw [if_neg e, h1.mpr e, Bool.true_or]; exact ⟨fun _ => one_ne, fun _ => rfl⟩
  unfold c_X3_isInSome c_X4_isUsed
  rw [← hm]
  have h := key mc (Nat.le_refl _)
  by_cases e : c_any (c_inAt lc mc bc N G y) mc = true
  · rw [if_pos e]; exact ⟨fun q => absurd q one_ne, fun q => absurd q (h.mp e)⟩
  · rw [if_neg e]
    refine ⟨fun _ => ?_, fun _ => rfl⟩
    by_cases q : c_X4_isUsed_ls a1 a2 a3 N' G' y mc = 0
    · exact q
    · exact absurd (h.mpr q) e
end SA

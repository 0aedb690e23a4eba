/-! what the calls answer, on both sides -/
section SK
variable {lc mc bc a1 a2 a3 : Nat} {N G N1 G1 N' G' N2 G2 : Nat → Nat → Int32} {x y v k w b : Int32}
theorem q_write (h : R3 lc mc bc N G N' G') (hM : MI N' G') : (∃ w, c_X3_write lc mc bc N G x y v = .inr w ∧ c_X4_write a1 a2 a3 N' G' x y v = w ∧ c_X4_write_N a1 a2 a3 N' G' x y v 200 15 = 0)
    ∨ (∃ u : Int32, ((u = 1 ∧ c_X3_write lc mc bc N G x y v = .inl "java/lang/IllegalArgumentException") ∨ (u = 2 ∧ c_X3_write lc mc bc N G x y v = .inl "java/util/NoSuchElementException") ∨ (u = 3 ∧ c_X3_write lc mc bc N G x y v = .inl "java/lang/UnsupportedOperationException")) ∧ c_X4_write_N a1 a2 a3 N' G' x y v 200 15 = u) := by
  rcases s_write (a1 := a1) (a2 := a2) (a3 := a3) (x := x) (y := y) (v := v) h hM with ⟨ρ, T, o, -, -, -, -, -, -, ⟨r, q1, q2⟩, -, -, q3⟩ | ⟨u, q1, -, -, q3, -⟩
  · exact Or.inl ⟨r, q1, q2, by rcases q3 with ⟨-, q3⟩ | ⟨-, q3⟩ <;> (rw [q3]; rfl)⟩
  · exact Or.inr ⟨u, q1, by rw [q3]; rfl⟩
theorem q_link (h : R3 lc mc bc N G N' G') (hM : MI N' G') : (∃ w, c_X3_link lc mc bc N G x y v = .inr w ∧ c_X4_link a1 a2 a3 N' G' x y v = w ∧ c_X4_link_N a1 a2 a3 N' G' x y v 200 15 = 0)
    ∨ (∃ u : Int32, ((u = 1 ∧ c_X3_link lc mc bc N G x y v = .inl "java/lang/IllegalArgumentException") ∨ (u = 2 ∧ c_X3_link lc mc bc N G x y v = .inl "java/util/NoSuchElementException")) ∧ c_X4_link_N a1 a2 a3 N' G' x y v 200 15 = u) := by
  rcases s_link (a1 := a1) (a2 := a2) (a3 := a3) (x := x) (y := y) (v := v) h hM with ⟨ρ, T, o, -, -, -, -, -, -, ⟨r, q1, q2⟩, -, -, q3⟩ | ⟨u, q1, -, -, q3, -⟩
  · exact Or.inl ⟨r, q1, q2, by rcases q3 with ⟨-, q3⟩ | ⟨-, q3⟩ <;> (rw [q3]; rfl)⟩
  · exact Or.inr ⟨u, q1, by rw [q3]; rfl⟩
theorem q_remove (h : R3 lc mc bc N G N' G') (hM : MI N' G') : (∃ w, c_X3_remove lc mc bc N G x = .inr w ∧ c_X4_remove a1 a2 a3 N' G' x = w ∧ c_X4_remove_N a1 a2 a3 N' G' x 200 15 = 0)
    ∨ (∃ u : Int32, ((u = 1 ∧ c_X3_remove lc mc bc N G x = .inl "java/lang/IllegalArgumentException") ∨ (u = 2 ∧ c_X3_remove lc mc bc N G x = .inl "java/util/NoSuchElementException")) ∧ c_X4_remove_N a1 a2 a3 N' G' x 200 15 = u) := by
  rcases s_remove (a1 := a1) (a2 := a2) (a3 := a3) (x := x) h hM with ⟨ρ, T, K, -, -, -, -, ⟨r, q1, q2⟩, -, -, q3⟩ | ⟨u, q1, -, q3, -⟩
  · exact Or.inl ⟨r, q1, q2, by rw [q3]; rfl⟩
  · exact Or.inr ⟨u, q1, by rw [q3]; rfl⟩
theorem q_shows (h : R3 lc mc bc N G N' G') (hM : MI N' G') : (∃ w, c_X3_shows lc mc bc N G x = .inr w ∧ c_X4_shows a1 a2 a3 N' G' x = w ∧ c_X4_shows_N a1 a2 a3 N' G' x 200 15 = 0)
    ∨ (∃ u : Int32, (u = 1 ∧ c_X3_shows lc mc bc N G x = .inl "java/lang/IllegalArgumentException") ∧ c_X4_shows_N a1 a2 a3 N' G' x 200 15 = u) := by
  have h6 := l6 hM h.1.1.1.1
  unfold c_X3_shows c_X4_shows c_X4_shows_N
  by_cases hx : IsP x
  · left
    rw [cp_P hx, isP_1 hx]
    simp only [scase, if_neg one_ne]
    rcases sh (a1 := a1) (a2 := a2) (a3 := a3) h.1 h.2.1 hM hx with ⟨j, ρ, L, hj, hρ0, hρ, hLl, w1, w3, w4, s1, s2, s3, s4⟩ | ⟨s1, s2⟩
    · rw [s1, w3, s2, ki h6 h.2.1 hLl hρ, if_neg (neg_nI (by omega)), if_neg (neg_nI (by omega)), nI_clamp (by omega)]
      by_cases c : G' 201 (341 * L + ρ) = 1
      · rw [if_pos c, if_pos c, if_pos c]; exact ⟨_, rfl, rfl, rfl⟩
      · have c2 : G' 201 (341 * L + ρ) = 2 := s3.resolve_left c
        rw [if_neg c, if_neg c, if_neg c, if_pos c2]; exact ⟨_, rfl, rfl, rfl⟩
    · rw [s1, s2, ki_neg, if_pos rfl, if_pos rfl]
      exact ⟨45, rfl, rfl, rfl⟩
  · right
    rw [cp_N hx, ip_N hx]
    exact ⟨1, ⟨rfl, rfl⟩, rfl⟩
theorem dv {L ρ : Nat} (hL : L < 6) (hρ : ρ < 341) : nI (341 * L + ρ) / 341 = nI L := by
  rw [show (341 : Int32) = nI 341 from rfl, nI_divN (by omega) (by decide)]
  congr 1; omega
theorem q_layerOf (h : R3 lc mc bc N G N' G') (hM : MI N' G') : (∃ w, c_X3_layerOf lc mc bc N G x = .inr w ∧ c_X4_layerOf a1 a2 a3 N' G' x = w ∧ c_X4_layerOf_N a1 a2 a3 N' G' x 200 15 = 0)
    ∨ (∃ u : Int32, ((u = 1 ∧ c_X3_layerOf lc mc bc N G x = .inl "java/lang/IllegalArgumentException") ∨ (u = 2 ∧ c_X3_layerOf lc mc bc N G x = .inl "java/util/NoSuchElementException")) ∧ c_X4_layerOf_N a1 a2 a3 N' G' x 200 15 = u) := by
  have h6 := l6 hM h.1.1.1.1
  unfold c_X3_layerOf c_X4_layerOf c_X4_layerOf_N
  by_cases hx : IsP x
  · rw [cp_P hx, isP_1 hx]
    simp only [scase, if_neg one_ne]
    rcases sh (a1 := a1) (a2 := a2) (a3 := a3) h.1 h.2.1 hM hx with ⟨j, ρ, L, hj, hρ0, hρ, hLl, w1, w3, w4, s1, s2, s3, s4⟩ | ⟨s1, s2⟩
    · left
      rw [s1, s2, if_neg (neg_nI (by omega)), if_neg (neg_nI (by omega)), if_neg (neg_nI (by omega)), dv (by omega) hρ]
      exact ⟨_, rfl, rfl, rfl⟩
    · right
      rw [s1, s2, if_pos rfl, if_pos rfl]
      exact ⟨2, Or.inr ⟨rfl, rfl⟩, rfl⟩
  · right
    rw [cp_N hx, ip_N hx]
    exact ⟨1, Or.inl ⟨rfl, rfl⟩, rfl⟩
theorem q_ownerOf (h : R3 lc mc bc N G N' G') (hM : MI N' G') : (∃ w, c_X3_ownerOf lc mc bc N G x = .inr w ∧ c_X4_ownerOf a1 a2 a3 N' G' x = w ∧ c_X4_ownerOf_N a1 a2 a3 N' G' x 200 15 = 0)
    ∨ (∃ u : Int32, ((u = 1 ∧ c_X3_ownerOf lc mc bc N G x = .inl "java/lang/IllegalArgumentException") ∨ (u = 2 ∧ c_X3_ownerOf lc mc bc N G x = .inl "java/util/NoSuchElementException")) ∧ c_X4_ownerOf_N a1 a2 a3 N' G' x 200 15 = u) := by
  have h6 := l6 hM h.1.1.1.1
  unfold c_X3_ownerOf c_X4_ownerOf c_X4_ownerOf_N c_X3_checkedShown
  by_cases hx : IsP x
  · rw [cp_P hx, isP_1 hx]
    simp only [scase, if_neg one_ne]
    rcases sh (a1 := a1) (a2 := a2) (a3 := a3) h.1 h.2.1 hM hx with ⟨j, ρ, L, hj, hρ0, hρ, hLl, w1, w3, w4, s1, s2, s3, s4⟩ | ⟨s1, s2⟩
    · left
      rw [s1, s2, lay_nI hLl h6, if_neg (neg_nI (by omega)), if_neg (neg_nI (by omega)), nI_clamp (by omega), w3]
      simp only [ocase, oa hρ, (h.2.1.2.1 L ρ hLl hρ s3).1]
      exact ⟨_, rfl, rfl, rfl⟩
    · right
      rw [s1, s2, lay_neg, if_pos rfl]
      exact ⟨2, Or.inr ⟨rfl, rfl⟩, rfl⟩
  · right
    rw [cp_N hx, ip_N hx]
    exact ⟨1, Or.inl ⟨rfl, rfl⟩, rfl⟩
/-- the size of the file that a place shows -/
theorem sfs (h : R3 lc mc bc N G N' G') (hM : MI N' G') (hx : IsP x) :
    (c_X4_shown a1 a2 a3 N' G' x = -1 ∧ c_X3_shownFileSize lc mc bc N G (nI (rkI x)) = -1)
    ∨ (∃ i, i < 2046 ∧ c_X4_shown a1 a2 a3 N' G' x = nI i ∧ ((G' 201 i = 1 ∧ (∃ n, n ≤ 9999 ∧ G' 203 i = nI n) ∧ c_X3_shownFileSize lc mc bc N G (nI (rkI x)) = G' 203 i) ∨ (G' 201 i = 2 ∧ c_X3_shownFileSize lc mc bc N G (nI (rkI x)) = -1))) := by
  have h6 := l6 hM h.1.1.1.1
  unfold c_X3_shownFileSize c_X3_fileSizeIn c_X1_fileSizeAt
  rcases sh (a1 := a1) (a2 := a2) (a3 := a3) h.1 h.2.1 hM hx with ⟨j, ρ, L, hj, hρ0, hρ, hLl, w1, w3, w4, s1, s2, s3, s4⟩ | ⟨s1, s2⟩
  · right
    refine ⟨341 * L + ρ, by omega, s2, ?_⟩
    rw [s1, w3, lay_nI hLl h6]
    simp only [ocase, ka hρ, va hρ, h.2.1.1 L ρ hLl hρ]
    rcases s3 with c | c
    · left
      rw [if_pos c]
      exact ⟨c, h.2.1.2.2.2.2.2 _ (by omega) c, (h.2.1.2.1 L ρ hLl hρ (Or.inl c)).2⟩
    · right
      rw [if_neg (by rw [c]; decide)]; exact ⟨c, rfl⟩
  · left
    rw [s1, lay_neg]; exact ⟨s2, rfl⟩
theorem q_used (h : R3 lc mc bc N G N' G') : (∃ w, c_X3_used lc mc bc N G x = .inr w ∧ c_X4_used_ a1 a2 a3 N' G' x = w ∧ c_X4_used__N a1 a2 a3 N' G' x 200 15 = 0)
    ∨ (∃ u : Int32, (u = 1 ∧ c_X3_used lc mc bc N G x = .inl "java/lang/IllegalArgumentException") ∧ c_X4_used__N a1 a2 a3 N' G' x 200 15 = u) := by
  unfold c_X3_used c_X4_used_ c_X4_used__N c_X3_checkOwner c_X3_usedBy c_X4_used
  rcases ow x with ⟨o, ho, rfl, o3, o4⟩ | ⟨o3, o4⟩
  · left
    rw [o3, o4]
    simp only [if_neg one_ne, scase, nI_clamp (show o < 2 ^ 31 by omega), h.2.2.1 o ho]
    exact ⟨_, rfl, rfl, rfl⟩
  · right
    rw [o3, o4]
    exact ⟨1, ⟨rfl, rfl⟩, rfl⟩
theorem bl_sm {i n : Nat} : c_X1_bytesOfOwner_ln lc mc bc N G i x n = sm (fun r => c_X1_bytesOfOwnerAt lc mc bc N G i x (nI r)) n := by
  induction n with
  | zero => rfl
  | succ n ih => rw [c_X1_bytesOfOwner_ln, ih, sm]
theorem ubl (h6 : lc ≤ 6) (hL : RY lc G G') {o n : Nat} (hn : n ≤ lc) : c_X3_usedByLayers_ln lc mc bc N G (nI o) n = sm (ct G' (nI o)) (341 * n) := by
  induction n with
  | zero => rfl
  | succ n ih =>
    rw [c_X3_usedByLayers_ln, lay_nI (by omega) h6, ocase_s rfl, ih (by omega), show 341 * (n + 1) = 341 * n + 341 by omega, sm_split]
    refine congrArg (fun z => sm (ct G' (nI o)) (341 * n) + z) ?_
    unfold c_X1_bytesOfOwner
    rw [bl_sm]
    refine sm_congr (fun r hr => ?_)
    unfold c_X1_bytesOfOwnerAt
    rw [oa hr, bA hr]; exact ct_old hL (by omega) hr
theorem q_usedByLayers (h : R3 lc mc bc N G N' G') (hM : MI N' G') : (∃ w, c_X3_usedByLayers lc mc bc N G x = .inr w ∧ c_X4_usedByLayers a1 a2 a3 N' G' x = w ∧ c_X4_usedByLayers_N a1 a2 a3 N' G' x 200 15 = 0)
    ∨ (∃ u : Int32, (u = 1 ∧ c_X3_usedByLayers lc mc bc N G x = .inl "java/lang/IllegalArgumentException") ∧ c_X4_usedByLayers_N a1 a2 a3 N' G' x 200 15 = u) := by
  have h6 := l6 hM h.1.1.1.1
  unfold c_X3_usedByLayers c_X4_usedByLayers c_X4_usedByLayers_N c_X4_used_ c_X4_used__N c_X3_checkOwner c_X4_used
  rcases ow x with ⟨o, ho, rfl, o3, o4⟩ | ⟨o3, o4⟩
  · left
    rw [o3, o4]
    simp only [if_neg one_ne, scase]
    refine ⟨_, rfl, ?_, rfl⟩
    rw [ubl h6 h.2.1 (Nat.le_refl _), us_sm (Nat.le_refl _)]
    rw [show 2046 = 341 * lc + (2046 - 341 * lc) by omega, sm_split, sm_zero (n := 2046 - 341 * lc), Int32.add_zero]
    intro r hr
    unfold ct
    rw [h.2.1.2.2.1 _ (by omega) (by omega)]; rfl
  · right
    rw [o3, o4]
    exact ⟨1, ⟨rfl, rfl⟩, rfl⟩
theorem cnt (h6 : lc ≤ 6) (hL : RY lc G G') {l : Nat} (hl : l < lc) : c_X1_countOf lc mc bc N G l y = c_X4_count a1 a2 a3 N' G' (nI l) y := by
  unfold c_X1_countOf c_X4_count
  rw [co_sm, cr_sm, nI_clamp (by omega)]
  exact sm_congr (fun r hr => by rw [hL.1 l r hl hr])
theorem q_whiteouts (h : R3 lc mc bc N G N' G') (hM : MI N' G') : (∃ w, c_X3_whiteouts lc mc bc N G x = .inr w ∧ c_X4_whiteouts a1 a2 a3 N' G' x = w ∧ c_X4_whiteouts_N a1 a2 a3 N' G' x 200 15 = 0)
    ∨ (∃ u : Int32, (u = 1 ∧ c_X3_whiteouts lc mc bc N G x = .inl "java/lang/IndexOutOfBoundsException") ∧ c_X4_whiteouts_N a1 a2 a3 N' G' x 200 15 = u) := by
  have h6 := l6 hM h.1.1.1.1
  unfold c_X3_whiteouts c_X4_whiteouts c_X4_whiteouts_N c_X3_checkedLayer
  rcases lay (mc := mc) (bc := bc) (N := N) (G := G) (a1 := a1) (a2 := a2) (a3 := a3) hM h.1.1.1.1 x with ⟨l, hl, rfl, q1, q2⟩ | ⟨q1, q2⟩
  · left
    rw [q1, q2]
    simp only [ocase, scase, if_neg one_ne]
    exact ⟨_, rfl, (cnt h6 h.2.1 hl).symm, rfl⟩
  · right
    rw [q1, q2]
    exact ⟨1, ⟨rfl, rfl⟩, rfl⟩
theorem ab_sm {i n : Nat} (hn : n ≤ 341) : c_X1_allBytesOfFiles_ln lc mc bc N G i n = sm (fun r => bo G i r) n := by
  induction n with
  | zero => rfl
  | succ n ih => rw [c_X1_allBytesOfFiles_ln, ih (by omega), sm, bA (by omega)]
theorem ms_sm {n : Nat} : c_X4_meanSize_ls G' x n = sm (fun r => if G' 201 (341 * x.toNatClampNeg + r) = 1 then G' 203 (341 * x.toNatClampNeg + r) else 0) n := by
  induction n with
  | zero => rfl
  | succ n ih =>
    rw [c_X4_meanSize_ls, ih, sm]
    by_cases c : G' 201 (341 * x.toNatClampNeg + n) = 1
    · rw [if_pos c]; simp [c]
    · rw [if_neg c]; simp [c]
theorem q_meanSize (h : R3 lc mc bc N G N' G') (hM : MI N' G') : (∃ w, c_X3_meanSize lc mc bc N G x = .inr w ∧ c_X4_meanSize a1 a2 a3 N' G' x = w ∧ c_X4_meanSize_N a1 a2 a3 N' G' x 200 15 = 0)
    ∨ (∃ u : Int32, ((u = 1 ∧ c_X3_meanSize lc mc bc N G x = .inl "java/lang/IndexOutOfBoundsException") ∨ (u = 2 ∧ c_X3_meanSize lc mc bc N G x = .inl "java/lang/ArithmeticException")) ∧ c_X4_meanSize_N a1 a2 a3 N' G' x 200 15 = u) := by
  have h6 := l6 hM h.1.1.1.1
  unfold c_X3_meanSize c_X4_meanSize c_X4_meanSize_N c_X3_checkedLayer
  rcases lay (mc := mc) (bc := bc) (N := N) (G := G) (a1 := a1) (a2 := a2) (a3 := a3) hM h.1.1.1.1 x with ⟨l, hl, rfl, q1, q2⟩ | ⟨q1, q2⟩
  · rw [q1, q2]
    simp only [ocase, scase, if_neg one_ne]
    have e : c_X1_allBytesOfFiles lc mc bc N G l = c_X4_meanSize_ls G' (nI l) 341 := by
      unfold c_X1_allBytesOfFiles
      rw [ab_sm (Nat.le_refl _), ms_sm, nI_clamp (by omega)]
      refine sm_congr (fun r hr => ?_)
      unfold bo
      rw [h.2.1.1 l r hl hr]
      by_cases c : G' 201 (341 * l + r) = 1
      · rw [if_pos c, if_pos c, (h.2.1.2.1 l r hl hr (Or.inl c)).2]
      · rw [if_neg c, if_neg c]
    rw [e, cnt (a1 := a1) (a2 := a2) (a3 := a3) (N' := N') h6 h.2.1 hl]
    by_cases c : c_X4_count a1 a2 a3 N' G' (nI l) 1 = 0
    · right
      rw [if_pos c, if_pos c]
      exact ⟨2, Or.inr ⟨rfl, rfl⟩, rfl⟩
    · left
      rw [if_neg c, if_neg c, if_neg c]
      exact ⟨_, rfl, rfl, rfl⟩
  · right
    rw [q1, q2]
    exact ⟨1, Or.inl ⟨rfl, rfl⟩, rfl⟩
theorem q_copies (h : R3 lc mc bc N G N' G') : c_X3_copies lc mc bc N G = c_X4_copies a1 a2 a3 N' G' := h.2.2.2
-- the end of links
theorem c_mayLead (h : R3 lc mc bc N G N' G') (hM : MI N' G') {x y : Int32} (hx : IsP x) (hy : IsP y) {j : Nat} (hj : j < mc) (hs : c_X4_servedBy a1 a2 a3 N' G' x = nI j) : (c_X3_mayLead lc mc bc N G (nI (rkI x)) (nI (rkI y)) = 0 ↔ ¬ (c_X4_servedBy a1 a2 a3 N' G' y = nI j ∨ ¬ G' 209 j = 0)) := by
  have h8 := h.1.m8 hM
  unfold c_X3_mayLead
  rcases vw (a1 := a1) (a2 := a2) (a3 := a3) h.1 hM hx with ⟨-, -, -, v4⟩ | ⟨j2, ρ, hj2, hρ, v1, v2, v3, v4, -, -⟩
  · rw [v4] at hs; exact absurd hs.symm (neg_nI (by omega))
  · have ej : j2 = j := (nI_eq (by omega) (by omega)).mp (v4.symm.trans hs)
    subst ej
    have m5 := (h.1.1.2.1 j2 hj2).2.2.2.2.1
    rw [v2, ocase_s rfl, v1, sat_r h.1.2 hy.2, ← sby (a1 := a1) (a2 := a2) (a3 := a3) (mc := mc) h.1.1.1.2.1 hy, ← m5]
    by_cases c : G' 209 j2 = 0
    · rw [if_pos c]
      by_cases d : nI j2 = c_X4_servedBy a1 a2 a3 N' G' y
      · rw [if_pos d]; exact ⟨fun q => absurd q one_ne, fun q => absurd (Or.inl d.symm) q⟩
      · rw [if_neg d]; exact ⟨fun _ q => q.elim (fun q => d q.symm) (fun q => q c), fun _ => rfl⟩
    · rw [if_neg c]; exact ⟨fun q => absurd q one_ne, fun q => absurd (Or.inr c) q⟩
theorem q_ends (h : R3 lc mc bc N G N' G') (hM : MI N' G') : ∀ (n k : Nat), IsP (c_lnk lc mc bc N G x k) →
    ((∃ w, c_ends lc mc bc N G x (n + 1) k = .inr w ∧ IsP w ∧ r_end a1 a2 a3 N' G' n (c_lnk lc mc bc N G x k) = (w, 0) ∧ (c_X4_shown a1 a2 a3 N' G' w = -1 ∨ ¬ G' 201 (c_X4_shown a1 a2 a3 N' G' w).toNatClampNeg = 2))
    ∨ (c_ends lc mc bc N G x (n + 1) k = .inl "java/lang/UnsupportedOperationException" ∧ r_end a1 a2 a3 N' G' n (c_lnk lc mc bc N G x k) = (-1, 2)) ∨ (c_ends lc mc bc N G x (n + 1) k = .inl "java/lang/IllegalStateException" ∧ r_end a1 a2 a3 N' G' n (c_lnk lc mc bc N G x k) = (-1, 3))) := by
  have h6 := l6 hM h.1.1.1.1
  intro n
  induction n with
  | zero =>
    intro k ha
    rw [c_ends, r_end, pl_P ha]
    rcases sh (a1 := a1) (a2 := a2) (a3 := a3) h.1 h.2.1 hM ha with ⟨j, ρ, L, hj, hρ0, hρ, hLl, w1, w3, w4, s1, s2, s3, s4⟩ | ⟨s1, s2⟩
    · rw [s1, w3, lay_nI hLl h6, ocase_s rfl, ka hρ, va hρ, h.2.1.1 L ρ hLl hρ, s2, if_neg (neg_nI (by omega)), nI_clamp (by omega)]
      by_cases c : G' 201 (341 * L + ρ) = 2
      · rw [if_pos c, if_pos c, (h.2.1.2.1 L ρ hLl hρ (Or.inr c)).2]
        have ht : IsP (G' 203 (341 * L + ρ)) := hM.2.2.2.2.2.2.2.2 _ (by omega) c
        rw [pl_P ht, w4, nI_clamp (by have := h.1.m8 hM; omega)]
        have hml := c_mayLead (a1 := a1) (a2 := a2) (a3 := a3) h hM ha ht hj w4
        by_cases d : c_X3_mayLead lc mc bc N G (nI (rkI (c_lnk lc mc bc N G x k))) (nI (rkI (G' 203 (341 * L + ρ)))) = 0
        · rw [if_pos d, if_neg (hml.mp d)]; exact Or.inr (Or.inl ⟨rfl, rfl⟩)
        · rw [if_neg d, if_pos (Classical.byContradiction fun q => d (hml.mpr q))]; exact Or.inr (Or.inr ⟨rfl, rfl⟩)
      · rw [if_neg c, if_neg c]
        exact Or.inl ⟨_, rfl, ha, rfl, Or.inr (by rw [s2, nI_clamp (by omega)]; exact c)⟩
    · rw [s1, lay_neg, s2, if_pos rfl]
      exact Or.inl ⟨_, rfl, ha, rfl, Or.inl s2⟩
  | succ n ih =>
    intro k ha
    rw [c_ends, r_end, pl_P ha]
    rcases sh (a1 := a1) (a2 := a2) (a3 := a3) h.1 h.2.1 hM ha with ⟨j, ρ, L, hj, hρ0, hρ, hLl, w1, w3, w4, s1, s2, s3, s4⟩ | ⟨s1, s2⟩
    · have hk1 : c_lnk lc mc bc N G x (k + 1) = c_X1_valueAt lc mc bc N G L (nI ρ) := by
        rw [c_lnk, pl_P ha, s1, w3, lay_nI hLl h6, ocase_s rfl]
      rw [s1, w3, lay_nI hLl h6, ocase_s rfl, ka hρ, va hρ, h.2.1.1 L ρ hLl hρ, s2, if_neg (neg_nI (by omega)), nI_clamp (by omega)]
      by_cases c : G' 201 (341 * L + ρ) = 2
      · rw [va hρ, (h.2.1.2.1 L ρ hLl hρ (Or.inr c)).2] at hk1
        rw [if_pos c, if_pos c, (h.2.1.2.1 L ρ hLl hρ (Or.inr c)).2]
        have ht : IsP (G' 203 (341 * L + ρ)) := hM.2.2.2.2.2.2.2.2 _ (by omega) c
        rw [pl_P ht, w4, nI_clamp (by have := h.1.m8 hM; omega)]
        have hml := c_mayLead (a1 := a1) (a2 := a2) (a3 := a3) h hM ha ht hj w4
        by_cases d : c_X3_mayLead lc mc bc N G (nI (rkI (c_lnk lc mc bc N G x k))) (nI (rkI (G' 203 (341 * L + ρ)))) = 0
        · rw [if_pos d, if_neg (hml.mp d)]; exact Or.inr (Or.inl ⟨rfl, rfl⟩)
        · rw [if_neg d, if_pos (Classical.byContradiction fun q => d (hml.mpr q)), ← hk1]
          exact ih (k + 1) (by rw [hk1]; exact ht)
      · rw [if_neg c, if_neg c]
        exact Or.inl ⟨_, rfl, ha, rfl, Or.inr (by rw [s2, nI_clamp (by omega)]; exact c)⟩
    · rw [s1, lay_neg, s2, if_pos rfl]
      exact Or.inl ⟨_, rfl, ha, rfl, Or.inl s2⟩
theorem q_end (h : R3 lc mc bc N G N' G') (hM : MI N' G') : (∃ w, c_X3_end lc mc bc N G x = .inr w ∧ c_X4_end a1 a2 a3 N' G' x = w ∧ (en_r a1 a2 a3 N' G' x).2 = 0)
    ∨ (∃ u : Int32, ((u = 1 ∧ c_X3_end lc mc bc N G x = .inl "java/lang/IllegalArgumentException") ∨ (u = 2 ∧ c_X3_end lc mc bc N G x = .inl "java/lang/UnsupportedOperationException") ∨ (u = 3 ∧ c_X3_end lc mc bc N G x = .inl "java/lang/IllegalStateException")) ∧ (en_r a1 a2 a3 N' G' x).2 = u) := by
  unfold c_X3_end c_X4_end en_r c_X3_endOfLinks
  by_cases hx : IsP x
  · rw [cp_P hx, isP_1 hx, if_neg one_ne]
    simp only [scase]
    rcases q_ends (a1 := a1) (a2 := a2) (a3 := a3) h hM 4 0 hx with ⟨w, e1, -, e2, -⟩ | ⟨e1, e2⟩ | ⟨e1, e2⟩
    · left; rw [e1, show r_end a1 a2 a3 N' G' 4 x = (w, 0) from e2]; exact ⟨w, rfl, rfl, rfl⟩
    · right; rw [e1, show r_end a1 a2 a3 N' G' 4 x = (-1, 2) from e2]; exact ⟨2, Or.inr (Or.inl ⟨rfl, rfl⟩), rfl⟩
    · right; rw [e1, show r_end a1 a2 a3 N' G' 4 x = (-1, 3) from e2]; exact ⟨3, Or.inr (Or.inr ⟨rfl, rfl⟩), rfl⟩
  · right
    rw [cp_N hx, ip_N hx, if_pos rfl]
    exact ⟨1, Or.inl ⟨rfl, rfl⟩, rfl⟩
theorem q_size (h : R3 lc mc bc N G N' G') (hM : MI N' G') : (∃ w, c_X3_size lc mc bc N G x = .inr w ∧ c_X4_size a1 a2 a3 N' G' x = w ∧ c_X4_size_N a1 a2 a3 N' G' x 200 15 = 0)
    ∨ (∃ u : Int32, ((u = 1 ∧ c_X3_size lc mc bc N G x = .inl "java/lang/IllegalArgumentException") ∨ (u = 2 ∧ c_X3_size lc mc bc N G x = .inl "java/lang/UnsupportedOperationException") ∨ (u = 3 ∧ c_X3_size lc mc bc N G x = .inl "java/lang/IllegalStateException") ∨ (u = 4 ∧ c_X3_size lc mc bc N G x = .inl "java/util/NoSuchElementException")) ∧ c_X4_size_N a1 a2 a3 N' G' x 200 15 = u) := by
  unfold c_X3_size c_X4_size c_X4_size_N c_X4_end en_r c_X3_endOfLinks
  by_cases hx : IsP x
  · rw [cp_P hx, isP_1 hx, if_neg one_ne]
    simp only [scase]
    rcases q_ends (a1 := a1) (a2 := a2) (a3 := a3) h hM 4 0 hx with ⟨w, e1, hw, e2, e3⟩ | ⟨e1, e2⟩ | ⟨e1, e2⟩
    · rw [e1, show r_end a1 a2 a3 N' G' 4 x = (w, 0) from e2]
      have z : ((w, (0 : Int32)) : Int32 × Int32).2 ≤ 0 := by show (0 : Int32) ≤ 0; decide
      simp only [pl_P hw]
      rw [if_pos z, if_pos z]
      rcases sfs (a1 := a1) (a2 := a2) (a3 := a3) h hM hw with ⟨f1, f2⟩ | ⟨i, hi, f1, ⟨c, ⟨n, hn, hv⟩, f2⟩ | ⟨c, f2⟩⟩
      · right
        rw [f1, f2, if_pos rfl, if_pos rfl]
        exact ⟨4, Or.inr (Or.inr (Or.inr ⟨rfl, rfl⟩)), rfl⟩
      · left
        rw [f1, f2, if_neg (neg_nI (by omega)), if_neg (neg_nI (by omega)), nI_clamp (by omega), hv, if_neg (neg_nI (by omega))]
        exact ⟨_, rfl, rfl, rfl⟩
      · rw [f1, nI_clamp (by omega)] at e3
        rcases e3 with e3 | e3
        · exact absurd e3 (neg_nI (by omega))
        · exact absurd c e3
    · right; rw [e1, show r_end a1 a2 a3 N' G' 4 x = (-1, 2) from e2]; exact ⟨2, Or.inr (Or.inl ⟨rfl, rfl⟩), rfl⟩
    · right; rw [e1, show r_end a1 a2 a3 N' G' 4 x = (-1, 3) from e2]; exact ⟨3, Or.inr (Or.inr (Or.inl ⟨rfl, rfl⟩)), rfl⟩
  · right
    rw [cp_N hx, ip_N hx, if_pos rfl]
    exact ⟨1, Or.inl ⟨rfl, rfl⟩, rfl⟩
end SK

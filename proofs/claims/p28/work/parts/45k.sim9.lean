/-! sums over the layers; links and removals, on both sides; the third relation is kept -/
section SI
variable {lc mc bc a1 a2 a3 : Nat} {N G N1 G1 N' G' N2 G2 : Nat → Nat → Int32} {x y v k w b : Int32}
def sm (f : Nat → Int32) : Nat → Int32
  | 0 => 0
  | k + 1 => sm f k + f k
theorem sm_congr {f g : Nat → Int32} {n : Nat} (h : ∀ k, k < n → f k = g k) : sm f n = sm g n := by
  induction n with
  | zero => rfl
  | succ n ih => rw [sm, sm, ih (fun k hk => h k (by omega)), h n (by omega)]
theorem sm_zero {f : Nat → Int32} {n : Nat} (h : ∀ k, k < n → f k = 0) : sm f n = 0 := by
  induction n with
  | zero => rfl
  | succ n ih => rw [sm, ih (fun k hk => h k (by omega)), h n (by omega), Int32.add_zero]
theorem sm_split {f : Nat → Int32} (a b : Nat) : sm f (a + b) = sm f a + sm (fun r => f (a + r)) b := by
  induction b with
  | zero => rw [Nat.add_zero, sm, Int32.add_zero]
  | succ b ih => rw [← Nat.add_assoc, sm, ih, sm, Int32.add_assoc]
theorem us_sm {n : Nat} (hn : n ≤ 2046) : c_X4_used_ls G' x (-1) n = sm (ct G' x) n := by
  induction n with
  | zero => rfl
  | succ n ih => rw [us_s (by omega), ih (by omega), sm]
theorem ll_sm {n : Nat} : c_X4_link_ls G' x y v n = sm (fun i => if G' 201 i = 2 then 1 else 0) n := by
  induction n with
  | zero => rfl
  | succ n ih =>
    rw [c_X4_link_ls, ih, sm]
    by_cases c : G' 201 n = 2
    · rw [if_pos c]; simp [c]
    · rw [if_neg c]; simp [c]
theorem co_sm {i n : Nat} : c_X1_countOf_ln lc mc bc N G i x n = sm (fun r => if G (110 + i) r = x then 1 else 0) n := by
  induction n with
  | zero => rfl
  | succ n ih =>
    rw [c_X1_countOf_ln, ih, sm]
    by_cases c : G (110 + i) n = x
    · rw [if_pos c]; simp [c]
    · rw [if_neg c]; simp [c]
theorem cr_sm {n : Nat} : c_X4_count_ls G' x y n = sm (fun r => if G' 201 (341 * x.toNatClampNeg + r) = y then 1 else 0) n := by
  induction n with
  | zero => rfl
  | succ n ih =>
    rw [c_X4_count_ls, ih, sm]
    by_cases c : G' 201 (341 * x.toNatClampNeg + n) = y
    · rw [if_pos c]; simp [c]
    · rw [if_neg c]; simp [c]
/-- the links of all layers -/
theorem lk_n (h6 : lc ≤ 6) (hL : RY lc G G') {n : Nat} (hn : n ≤ lc) : c_X3_link_ln lc mc bc N G x y v n = sm (fun i => if G' 201 i = 2 then 1 else 0) (341 * n) := by
  induction n with
  | zero => rfl
  | succ n ih =>
    rw [c_X3_link_ln, lay_nI (by omega) h6, ocase_s rfl, ih (by omega), show 341 * (n + 1) = 341 * n + 341 by omega, sm_split]
    congr 1
    unfold c_X1_countOf
    rw [co_sm]
    exact sm_congr (fun r hr => by rw [hL.1 n r (by omega) hr])
theorem lk_all (h6 : lc ≤ 6) (hL : RY lc G G') : c_X3_link_ln lc mc bc N G x y v lc = c_X4_link_ls G' x y v 2046 := by
  rw [lk_n h6 hL (Nat.le_refl _), ll_sm, show 2046 = 341 * lc + (2046 - 341 * lc) by omega, sm_split, sm_zero (n := 2046 - 341 * lc), Int32.add_zero]
  intro r hr
  rw [hL.2.2.1 _ (by omega) (by omega)]; rfl
/-- 'link' on both sides -/
theorem s_link (h : R3 lc mc bc N G N' G') (hM : MI N' G') :
    (∃ ρ T o, 0 < ρ ∧ ρ < 341 ∧ T < lc ∧ o < 4 ∧ x = nI o ∧ IsP v ∧ (∃ r, c_X3_link lc mc bc N G x y v = .inr r ∧ c_X4_link a1 a2 a3 N' G' x y v = r) ∧ c_X3_link_G lc mc bc N G x y v = chG G T ρ 2 x v ∧ c_X4_link_G a1 a2 a3 N' G' x y v = mt_gu (mt_gu (mt_gu G' 201 (341 * T + ρ) 2) 202 (341 * T + ρ) x) 203 (341 * T + ρ) v ∧ ((c_X3_link_N lc mc bc N G x y v = N ∧ c_X4_link_N a1 a2 a3 N' G' x y v = mt_gu (mt_gu N' 200 15 0) 200 11 (N' 200 11 + 0)) ∨ (c_X3_link_N lc mc bc N G x y v = mt_gu N 0 10 (N 0 10 + 1) ∧ c_X4_link_N a1 a2 a3 N' G' x y v = mt_gu (mt_gu N' 200 15 0) 200 11 (N' 200 11 + 1))))
    ∨ (∃ u : Int32, ((u = 1 ∧ c_X3_link lc mc bc N G x y v = .inl "java/lang/IllegalArgumentException") ∨ (u = 2 ∧ c_X3_link lc mc bc N G x y v = .inl "java/util/NoSuchElementException")) ∧ c_X3_link_N lc mc bc N G x y v = N ∧ c_X3_link_G lc mc bc N G x y v = G ∧ c_X4_link_N a1 a2 a3 N' G' x y v = mt_gu N' 200 15 u ∧ c_X4_link_G a1 a2 a3 N' G' x y v = G') := by
  obtain ⟨h2, hL, hU, hC⟩ := h
  have h6 := l6 hM h2.1.1.1
  unfold c_X3_link c_X4_link c_X3_link_N c_X3_link_G c_X4_link_N c_X4_link_G
  rcases ow x with ⟨o, ho, rfl, o3, o4⟩ | ⟨o3, o4⟩
  · have hco : c_X3_checkOwner (nI o) = .inr () := by unfold c_X3_checkOwner; rw [o3, if_neg one_ne]
    rw [hco, o4]
    simp only [scase, if_neg one_ne]
    by_cases hy : IsP y
    · rw [cp_P hy, isP_1 hy]
      simp only [if_neg one_ne]
      by_cases hv : IsP v
      · rw [cp_P hv, isP_1 hv]
        simp only [if_neg one_ne]
        rcases ltw (a1 := a1) (a2 := a2) (a3 := a3) h2 hM hy with ⟨j, ρ, T, hj, hρ0, hρ, hT, v1, v2, v3, v4, -, v5, v6, v7, -, lo, hlo, n0, -, t3⟩ | ⟨v5, v6, -⟩
        · rw [v5, v6]
          simp only [if_neg one_ne]
          have t4 : (N (150 + j) 1 = -1 ∧ T = lo) ∨ (N (150 + j) 1 = nI T ∧ ¬ T = lo) := by
            rcases t3 with ⟨p1, -, p2⟩ | ⟨p1, -, p2⟩
            · exact Or.inl ⟨p1, p2⟩
            · exact Or.inr ⟨p1, p2⟩
          left
          obtain ⟨p1, p2, p3⟩ := s_put (a1 := a1) (a2 := a2) (a3 := a3) (k := 2) (w := nI o) (v := v) (N' := mt_gu N' 200 15 0) h2 hL (MI_t hM) hy hj hρ0 hρ hT v2 v3 v1 v7 hlo n0 t4
          have g := g_put (G' := G') (k := 2) (w := nI o) (v := v) (t := 341 * T + ρ)
          have hL2 := RY.put (k := 2) (w := nI o) (v := v) h6 hL hT (by omega) hρ g.1 g.2.1 (fun _ => g.2.2) (fun _ => ⟨o, ho, rfl⟩) (fun q => absurd q (by decide))
          refine ⟨ρ, T, o, hρ0, hρ, hT, ho, rfl, hv, ⟨_, rfl, ?_⟩, p1, p2, ?_⟩
          · rw [p1, p2, lk_all h6 hL2]
          · rcases p3 with ⟨p3, p4⟩ | ⟨p3, p4⟩
            · exact Or.inl ⟨p3, p4⟩
            · exact Or.inr ⟨p3, p4⟩
        · right
          rw [v5, v6]
          exact ⟨2, Or.inr ⟨rfl, (by first | rfl | trivial)⟩, (by first | rfl | trivial), (by first | rfl | trivial), (by first | rfl | trivial), (by first | rfl | trivial)⟩
      · right
        rw [cp_N hv, ip_N hv]
        exact ⟨1, Or.inl ⟨rfl, (by first | rfl | trivial)⟩, (by first | rfl | trivial), (by first | rfl | trivial), (by first | rfl | trivial), (by first | rfl | trivial)⟩
    · right
      rw [cp_N hy, ip_N hy]
      exact ⟨1, Or.inl ⟨rfl, (by first | rfl | trivial)⟩, (by first | rfl | trivial), (by first | rfl | trivial), (by first | rfl | trivial), (by first | rfl | trivial)⟩
  · right
    have hco : c_X3_checkOwner x = .inl "java/lang/IllegalArgumentException" := by unfold c_X3_checkOwner; rw [o3, if_pos rfl]
    rw [hco, o4]
    exact ⟨1, Or.inl ⟨rfl, (by first | rfl | trivial)⟩, (by first | rfl | trivial), (by first | rfl | trivial), (by first | rfl | trivial), (by first | rfl | trivial)⟩
/-- 'remove' on both sides -/
theorem s_remove (h : R3 lc mc bc N G N' G') (hM : MI N' G') :
    (∃ ρ T K, 0 < ρ ∧ ρ < 341 ∧ T < lc ∧ (K = 0 ∨ K = 3) ∧ (∃ r, c_X3_remove lc mc bc N G x = .inr r ∧ c_X4_remove a1 a2 a3 N' G' x = r) ∧ c_X3_remove_G lc mc bc N G x = chG G T ρ K 0 0 ∧ c_X4_remove_G a1 a2 a3 N' G' x = mt_gu G' 201 (341 * T + ρ) K ∧ c_X4_remove_N a1 a2 a3 N' G' x = mt_gu N' 200 15 0)
    ∨ (∃ u : Int32, ((u = 1 ∧ c_X3_remove lc mc bc N G x = .inl "java/lang/IllegalArgumentException") ∨ (u = 2 ∧ c_X3_remove lc mc bc N G x = .inl "java/util/NoSuchElementException")) ∧ c_X3_remove_G lc mc bc N G x = G ∧ c_X4_remove_N a1 a2 a3 N' G' x = mt_gu N' 200 15 u ∧ c_X4_remove_G a1 a2 a3 N' G' x = G') := by
  obtain ⟨h2, hL, hU, hC⟩ := h
  have h6 := l6 hM h2.1.1.1
  unfold c_X3_remove c_X4_remove c_X3_remove_G c_X4_remove_N c_X4_remove_G c_X3_checkedShown
  by_cases hx : IsP x
  · rw [cp_P hx, isP_1 hx]
    simp only [scase, if_neg one_ne]
    rcases sh (a1 := a1) (a2 := a2) (a3 := a3) h2 hL hM hx with ⟨j, ρ, L, hj, hρ0, hρ, hLl, w1, w3, w4, s1, s2, s3, s4⟩ | ⟨s1, s2⟩
    · rcases ltw (a1 := a1) (a2 := a2) (a3 := a3) h2 hM hx with ⟨j2, ρ2, T, hj2, -, hρ2, hT, v1, v2, v3, -, v8, -, -, v7, v9, lo, hlo, n0, g6, t3⟩ | ⟨-, -, v3⟩
      · have ej : j2 = j := (nI_eq (by have := h2.m8 hM; omega) (by have := h2.m8 hM; omega)).mp (v1.symm.trans w1)
        have eρ : ρ2 = ρ := (nI_eq (by omega) (by omega)).mp (v3.symm.trans w3)
        subst ej; subst eρ
        left
        have hbo : c_X1_bytesAt lc mc bc N G L (nI ρ2) = if G' 201 (341 * L + ρ2) = 1 then G' 203 (341 * L + ρ2) else 0 := by
          rw [bA hρ]; unfold bo; rw [hL.1 L ρ2 hLl hρ]
          by_cases c : G' 201 (341 * L + ρ2) = 1
          · rw [if_pos c, if_pos c, (hL.2.1 L ρ2 hLl hρ (Or.inl c)).2]
          · rw [if_neg c, if_neg c]
        have hch : ∀ (K : Int32), c_X3_change_G lc mc bc N G (some T) (nI ρ2) K 0 0 = chG G T ρ2 K 0 0 := fun _ => rfl
        have hj6 : j2 < 2 ^ 31 := by have := h2.m8 hM; omega
        rw [s1, lay_nI hLl h6]
        simp only [ocase]
        rw [v2, v3, s2, w4, if_neg (neg_nI (by omega)), if_neg (neg_nI (by omega)), if_neg (neg_nI (by omega)), nI_clamp (by omega), nI_clamp hj6, v7, nI_clamp (by omega), v8, g6, ixc (by omega) hρ]
        simp only [ocase]
        rw [v9]
        simp only [ocase, hbo, hch, n0]
        rcases t3 with ⟨u1, u2, u3⟩ | ⟨u1, u2, u3⟩
        · simp only [u1, u2, if_true]
          refine ⟨ρ2, T, 0, hρ0, hρ, hT, Or.inl rfl, ?_⟩
          by_cases c : G' 201 (341 * L + ρ2) = 1
          · simp [c]
          · simp [c]
        · have nT : ¬ nI T = -1 := neg_nI (by omega)
          simp only [u1, u2, if_neg nT, ki h6 hL hlo hρ]
          by_cases c2 : G' 201 (341 * lo + ρ2) = 1 ∨ G' 201 (341 * lo + ρ2) = 2
          · have c3 : ¬ c_X3_isThing (G' 201 (341 * lo + ρ2)) = 0 := fun q => thing_0.mp q c2
            simp only [if_neg c3]
            refine ⟨ρ2, T, 3, hρ0, hρ, hT, Or.inr rfl, ?_⟩
            by_cases c : G' 201 (341 * L + ρ2) = 1
            · rcases c2 with c2 | c2 <;> simp [c, c2]
            · rcases c2 with c2 | c2 <;> simp [c, c2]
          · have c3 : c_X3_isThing (G' 201 (341 * lo + ρ2)) = 0 := thing_0.mpr c2
            have c4 : ¬ G' 201 (341 * lo + ρ2) = 1 := fun q => c2 (Or.inl q)
            have c5 : ¬ G' 201 (341 * lo + ρ2) = 2 := fun q => c2 (Or.inr q)
            simp only [if_pos c3]
            refine ⟨ρ2, T, 0, hρ0, hρ, hT, Or.inl rfl, ?_⟩
            by_cases c : G' 201 (341 * L + ρ2) = 1
            · simp [c, c4, c5]
            · simp [c, c4, c5]
      · rw [w3] at v3
        exact absurd v3 (nI_ne0 hρ0 (by omega))
    · right
      rw [s1, lay_neg, s2]
      exact ⟨2, Or.inr ⟨rfl, (by first | rfl | trivial)⟩, (by first | rfl | trivial), (by first | rfl | trivial), (by first | rfl | trivial)⟩
  · right
    rw [cp_N hx, ip_N hx]
    exact ⟨1, Or.inl ⟨rfl, (by first | rfl | trivial)⟩, (by first | rfl | trivial), (by first | rfl | trivial), (by first | rfl | trivial)⟩
end SI

/-! what is written and removed, on both sides -/
section SH
variable {lc mc bc a1 a2 a3 : Nat} {N G N1 G1 N' G' N2 G2 : Nat → Nat → Int32} {x y v k w b : Int32}
theorem ltw (h : R2 lc mc bc N G N' G') (hM : MI N' G') (hy : IsP y) :
    (∃ j ρ T, j < mc ∧ 0 < ρ ∧ ρ < 341 ∧ T < lc ∧ c_X3_serverAt lc mc bc N G (nI (rkI y)) = nI j ∧ c_X3_mountThere lc mc bc N G (c_X3_serverAt lc mc bc N G (nI (rkI y))) = some j ∧ c_X3_restAt lc mc bc N G (nI (rkI y)) = nI ρ ∧ c_X4_servedBy a1 a2 a3 N' G' y = nI j ∧ c_X4_rank (c_X4_rest y (G' 205 j)) = nI ρ ∧ c_X3_layerToWrite lc mc bc N G (nI (rkI y)) = .inr T ∧ c_X4_canWrite a1 a2 a3 N' G' y = 1 ∧ c_X4_target a1 a2 a3 N' G' y = nI (341 * T + ρ) ∧ c_X3_layerAt lc mc bc N G (c_X2_written lc mc bc N G j) = some T ∧ ∃ lo, lo < lc ∧ N (150 + j) 0 = nI lo ∧ G' 206 j = nI lo ∧ ((N (150 + j) 1 = -1 ∧ G' 207 j = -1 ∧ T = lo) ∨ (N (150 + j) 1 = nI T ∧ G' 207 j = nI T ∧ ¬ T = lo)))
    ∨ (c_X3_layerToWrite lc mc bc N G (nI (rkI y)) = .inl "java/util/NoSuchElementException" ∧ c_X4_canWrite a1 a2 a3 N' G' y = 0 ∧ c_X3_restAt lc mc bc N G (nI (rkI y)) = 0) := by
  have h6 := l6 hM h.1.1.1
  have h8 := h.m8 hM
  unfold c_X3_layerToWrite c_X4_canWrite c_X4_target
  rcases vw (a1 := a1) (a2 := a2) (a3 := a3) h hM hy with ⟨v1, v2, v3, v4⟩ | ⟨j, ρ, hj, hρ, v1, v2, v3, v4, v5, v6⟩
  · right; rw [v2, v4, if_pos rfl]; exact ⟨rfl, rfl, v3⟩
  · obtain ⟨lo, hlo, n0, g6, hup⟩ := ml h hM hj
    rw [v2, v3, v4, if_neg (neg_nI (by omega)), nI_clamp (by omega), v6, g6, ix]
    simp only [ocase]
    have hwr : ∃ T, T < lc ∧ c_X2_written lc mc bc N G j = nI T ∧ (if G' 207 j = -1 then nI (341 * lo + ρ) else (341 : Int32) * G' 207 j + nI ρ) = nI (341 * T + ρ) ∧ ((N (150 + j) 1 = -1 ∧ G' 207 j = -1 ∧ T = lo) ∨ (N (150 + j) 1 = nI T ∧ G' 207 j = nI T ∧ ¬ T = lo)) := by
      unfold c_X2_written
      rcases hup with ⟨u1, u2⟩ | ⟨up, hup, hne, u1, u2⟩
      · rw [if_pos u1, if_pos u2]; exact ⟨lo, hlo, n0, rfl, Or.inl ⟨u1, u2, rfl⟩⟩
      · rw [u1, if_neg (neg_nI (by omega)), u2, if_neg (neg_nI (by omega)), ix]; exact ⟨up, hup, rfl, rfl, Or.inr ⟨rfl, rfl, hne⟩⟩
    obtain ⟨T, hT, t1, t2, t3⟩ := hwr
    rw [t1, lay_nI hT h6]
    simp only [ocase]
    by_cases hz : ρ = 0
    · right
      have hz2 : nI ρ = 0 := by rw [hz]; rfl
      rw [if_pos (v5.mpr hz), if_pos hz2]
      exact ⟨rfl, rfl, hz2⟩
    · left
      rw [if_neg (fun q => hz (v5.mp q))]
      exact ⟨j, ρ, T, hj, by omega, hρ, hT, v1, rfl, rfl, rfl, v6, if_neg (nI_ne0 (by omega) (by omega)), rfl, t2, by rw [t1, lay_nI hT h6], lo, hlo, n0, g6, t3⟩
/-- what is put, on both sides -/
theorem s_put (h : R2 lc mc bc N G N' G') (hL : RY lc G G') (hM : MI N' G') (hy : IsP y) {j ρ T lo : Nat} (hj : j < mc) (hρ0 : 0 < ρ) (hρ : ρ < 341) (hT : T < lc) (v2 : c_X3_mountThere lc mc bc N G (c_X3_serverAt lc mc bc N G (nI (rkI y))) = some j) (v3 : c_X3_restAt lc mc bc N G (nI (rkI y)) = nI ρ) (v1 : c_X3_serverAt lc mc bc N G (nI (rkI y)) = nI j) (vt : c_X4_target a1 a2 a3 N' G' y = nI (341 * T + ρ)) (hlo : lo < lc) (n0 : N (150 + j) 0 = nI lo) (t3 : (N (150 + j) 1 = -1 ∧ T = lo) ∨ (N (150 + j) 1 = nI T ∧ ¬ T = lo)) :
    c_X3_putAt_G lc mc bc N G (nI (rkI y)) T k w v = chG G T ρ k w v ∧ c_X4_puts_G a1 a2 a3 N' G' y k w v = mt_gu (mt_gu (mt_gu G' 201 (341 * T + ρ) k) 202 (341 * T + ρ) w) 203 (341 * T + ρ) v
    ∧ ((c_X3_putAt_N lc mc bc N G (nI (rkI y)) T k w v = N ∧ c_X4_puts_N a1 a2 a3 N' G' y k w v = mt_gu N' 200 11 (N' 200 11 + 0)) ∨ (c_X3_putAt_N lc mc bc N G (nI (rkI y)) T k w v = mt_gu N 0 10 (N 0 10 + 1) ∧ c_X4_puts_N a1 a2 a3 N' G' y k w v = mt_gu N' 200 11 (N' 200 11 + 1))) := by
  have h6 := l6 hM h.1.1.1
  have e1 : c_X3_change_G lc mc bc N G (some T) (c_X3_restAt lc mc bc N G (nI (rkI y))) k w v = chG G T ρ k w v := by rw [v3]; exact ch_e
  have e2 : c_X3_change_G lc mc bc (mt_gu N 0 10 (N 0 10 + 1)) G (some T) (c_X3_restAt lc mc bc (mt_gu N 0 10 (N 0 10 + 1)) G (nI (rkI y))) k w v = chG G T ρ k w v := e1
  refine ⟨?_, ?_, ?_⟩
  · unfold c_X3_putAt_G
    rw [v2, ocase_s rfl, e1, e2]
    split
    · rfl
    · split <;> rfl
  · unfold c_X4_puts_G
    rw [vt, nI_clamp (by omega)]
    split
    · rfl
    · split <;> rfl
  · unfold c_X3_putAt_N c_X4_puts_N
    rw [v2, vt]
    simp only [ocase]
    show ((if N (150 + j) 1 = -1 then N else (if c_X3_layerShown lc mc bc N G (nI (rkI y)) = N (150 + j) 0 then mt_gu N 0 10 (N 0 10 + 1) else N)) = N ∧ _) ∨ ((if N (150 + j) 1 = -1 then N else (if c_X3_layerShown lc mc bc N G (nI (rkI y)) = N (150 + j) 0 then mt_gu N 0 10 (N 0 10 + 1) else N)) = _ ∧ _)
    rcases sh (a1 := a1) (a2 := a2) (a3 := a3) h hL hM hy with ⟨j2, ρ2, L, hj2, -, hρ2, hLl, w1, w3, -, s1, s2, -, s4⟩ | ⟨s1, s2⟩
    · have ej : j2 = j := (nI_eq (by have := h.m8 hM; omega) (by have := h.m8 hM; omega)).mp (w1.symm.trans v1)
      have eρ : ρ2 = ρ := (nI_eq (by omega) (by omega)).mp (w3.symm.trans v3)
      subst ej; subst eρ
      rw [s1, s2, if_neg (neg_nI (by omega)), n0]
      have hix : (nI (341 * L + ρ2) = nI (341 * T + ρ2)) ↔ L = T := by rw [nI_eq (by omega) (by omega)]; omega
      have hll : (nI L = nI lo) ↔ L = lo := nI_eq (by omega) (by omega)
      rw [n0] at s4
      have s4 : lo = L ∨ N (150 + j2) 1 = nI L := s4.imp (fun q => (nI_eq (by omega) (by omega)).mp q) id
      rcases t3 with ⟨t4, t5⟩ | ⟨t4, t5⟩
      · left
        have : L = T := by
          rcases s4 with q | q
          · omega
          · rw [t4] at q; exact absurd q.symm (neg_nI (by omega))
        rw [if_pos t4, if_pos (hix.mpr this)]; exact ⟨rfl, rfl⟩
      · rw [t4, if_neg (neg_nI (by omega))]
        by_cases c : L = T
        · left
          rw [if_pos (hix.mpr c), if_neg (fun q => by have := hll.mp q; omega)]; exact ⟨rfl, rfl⟩
        · right
          have : L = lo := by
            rcases s4 with q | q
            · exact q.symm
            · rw [t4] at q; exact absurd ((nI_eq (by omega) (by omega)).mp q).symm c
          rw [if_neg (fun q => c (hix.mp q)), if_pos (hll.mpr this)]; exact ⟨rfl, rfl⟩
    · left
      have hne : ¬ (-1 : Int32) = nI lo := fun q => neg_nI (j := lo) (by omega) q.symm
      rw [s1, s2, if_pos rfl, n0, if_neg hne]
      refine ⟨?_, rfl⟩
      split <;> rfl
/-- the third relation: layers, what owners use, copies -/
def R3 (lc mc bc : Nat) (N G N' G' : Nat → Nat → Int32) : Prop := R2 lc mc bc N G N' G' ∧ RY lc G G' ∧ RU G G' ∧ N 0 10 = N' 200 11
theorem g_put {t : Nat} : (∀ i, mt_gu (mt_gu (mt_gu G' 201 t k) 202 t w) 203 t v 201 i = if i = t then k else G' 201 i) ∧ (∀ i, ¬ i = t → mt_gu (mt_gu (mt_gu G' 201 t k) 202 t w) 203 t v 202 i = G' 202 i ∧ mt_gu (mt_gu (mt_gu G' 201 t k) 202 t w) 203 t v 203 i = G' 203 i) ∧ (mt_gu (mt_gu (mt_gu G' 201 t k) 202 t w) 203 t v 202 t = w ∧ mt_gu (mt_gu (mt_gu G' 201 t k) 202 t w) 203 t v 203 t = v) := by
  refine ⟨fun i => ?_, fun i hi => ⟨?_, ?_⟩, ?_, ?_⟩
  · rw [gu_n (by decide), gu_n (by decide), gu_s]
  · rw [gu_n (by decide), gu_s, if_neg hi, gu_n (by decide)]
  · rw [gu_s, if_neg hi, gu_n (by decide), gu_n (by decide)]
  · rw [gu_n (by decide), gu_s, if_pos rfl]
  · rw [gu_s, if_pos rfl]
theorem inI_9 (hv : ¬ v < 0) (hv2 : v ≤ 9999) : (∃ n, n ≤ 9999 ∧ v = nI n) ∧ c_inI v 0 9999 = 1 := by
  refine ⟨nI_of2 (M := 9999) (n := 9999) (by decide) hv hv2, ?_⟩
  unfold c_inI; rw [if_neg hv, if_neg (Int32.not_lt.mpr hv2)]
/-- 'write' on both sides -/
theorem s_write (h : R3 lc mc bc N G N' G') (hM : MI N' G') :
    (∃ ρ T o, 0 < ρ ∧ ρ < 341 ∧ T < lc ∧ o < 4 ∧ x = nI o ∧ (∃ n, n ≤ 9999 ∧ v = nI n) ∧ (∃ r, c_X3_write lc mc bc N G x y v = .inr r ∧ c_X4_write a1 a2 a3 N' G' x y v = r) ∧ c_X3_write_G lc mc bc N G x y v = chG G T ρ 1 x v ∧ c_X4_write_G a1 a2 a3 N' G' x y v = mt_gu (mt_gu (mt_gu G' 201 (341 * T + ρ) 1) 202 (341 * T + ρ) x) 203 (341 * T + ρ) v ∧ ((c_X3_write_N lc mc bc N G x y v = N ∧ c_X4_write_N a1 a2 a3 N' G' x y v = mt_gu (mt_gu N' 200 15 0) 200 11 (N' 200 11 + 0)) ∨ (c_X3_write_N lc mc bc N G x y v = mt_gu N 0 10 (N 0 10 + 1) ∧ c_X4_write_N a1 a2 a3 N' G' x y v = mt_gu (mt_gu N' 200 15 0) 200 11 (N' 200 11 + 1))))
    ∨ (∃ u : Int32, ((u = 1 ∧ c_X3_write lc mc bc N G x y v = .inl "java/lang/IllegalArgumentException") ∨ (u = 2 ∧ c_X3_write lc mc bc N G x y v = .inl "java/util/NoSuchElementException") ∨ (u = 3 ∧ c_X3_write lc mc bc N G x y v = .inl "java/lang/UnsupportedOperationException")) ∧ c_X3_write_N lc mc bc N G x y v = N ∧ c_X3_write_G lc mc bc N G x y v = G ∧ c_X4_write_N a1 a2 a3 N' G' x y v = mt_gu N' 200 15 u ∧ c_X4_write_G a1 a2 a3 N' G' x y v = G') := by
  obtain ⟨h2, hL, hU, hC⟩ := h
  unfold c_X3_write c_X4_write c_X3_write_N c_X3_write_G c_X4_write_N c_X4_write_G
  rcases ow x with ⟨o, ho, rfl, o3, o4⟩ | ⟨o3, o4⟩
  · have hco : c_X3_checkOwner (nI o) = .inr () := by unfold c_X3_checkOwner; rw [o3, if_neg one_ne]
    rw [hco, o4]
    simp only [scase, if_neg one_ne]
    by_cases c0 : v < 0
    · right
      have e : c_inI v 0 9999 = 0 := by unfold c_inI; rw [if_pos c0]
      simp only [if_pos c0, e]
      exact ⟨1, Or.inl ⟨rfl, (by first | rfl | trivial)⟩, (by first | rfl | trivial), (by first | rfl | trivial), (by first | rfl | trivial), (by first | rfl | trivial)⟩
    · simp only [if_neg c0]
      by_cases c9 : v ≤ 9999
      · obtain ⟨hvn, e⟩ := inI_9 c0 c9
        simp only [if_pos c9, e, if_neg one_ne]
        by_cases hy : IsP y
        · rw [cp_P hy, isP_1 hy]
          simp only [if_neg one_ne]
          rcases ltw (a1 := a1) (a2 := a2) (a3 := a3) h2 hM hy with ⟨j, ρ, T, hj, hρ0, hρ, hT, v1, v2, v3, v4, -, v5, v6, v7, -, lo, hlo, n0, -, t3⟩ | ⟨v5, v6, -⟩
          · rw [v5, v6, v7]
            simp only [if_neg one_ne]
            have t4 : (N (150 + j) 1 = -1 ∧ T = lo) ∨ (N (150 + j) 1 = nI T ∧ ¬ T = lo) := by
              rcases t3 with ⟨p1, -, p2⟩ | ⟨p1, -, p2⟩
              · exact Or.inl ⟨p1, p2⟩
              · exact Or.inr ⟨p1, p2⟩
            have hub : c_X3_usedBy lc mc bc N G (nI o) = c_X4_used_ls G' (nI o) (-1) 2046 := by
              unfold c_X3_usedBy; rw [o3, if_neg one_ne, nI_clamp (by omega)]; exact hU o ho
            have hbo : c_X1_bytesOfOwnerAt lc mc bc N G T (nI o) (c_X3_restAt lc mc bc N G (nI (rkI y))) = ct G' (nI o) (341 * T + ρ) := by
              unfold c_X1_bytesOfOwnerAt
              rw [v3, oa hρ, bA hρ]; exact ct_old hL hT hρ
            have h6 := l6 hM h2.1.1.1
            have hus : c_X4_used a1 a2 a3 N' G' (nI o) (nI (341 * T + ρ)) = c_X4_used_ls G' (nI o) (-1) 2046 - ct G' (nI o) (341 * T + ρ) := by
              unfold c_X4_used; rw [us_but (by omega) (Nat.le_refl 2046), if_pos (show 341 * T + ρ < 2046 by omega)]
            have hqu : c_X3_quotaOf lc mc bc N G (nI o) = G' 211 o := by
              unfold c_X3_quotaOf; rw [o3, if_neg one_ne, nI_clamp (by omega)]; exact h2.1.2.2 o ho
            rw [hub, hbo, hus, hqu, nI_clamp (by omega)]
            by_cases cq : c_X4_used_ls G' (nI o) (-1) 2046 - ct G' (nI o) (341 * T + ρ) + v ≤ G' 211 o
            · left
              simp only [if_pos cq]
              obtain ⟨p1, p2, p3⟩ := s_put (a1 := a1) (a2 := a2) (a3 := a3) (k := 1) (w := nI o) (v := v) (N' := mt_gu N' 200 15 0) h2 hL (MI_t hM) hy hj hρ0 hρ hT v2 v3 v1 v7 hlo n0 t4
              have g := g_put (G' := G') (k := 1) (w := nI o) (v := v) (t := 341 * T + ρ)
              have hU2 := RU.put (k := 1) (w := nI o) (v := v) h6 hL hU hT hρ g.1 g.2.1 (fun _ => g.2.2)
              refine ⟨ρ, T, o, hρ0, hρ, hT, ho, rfl, hvn, ⟨_, rfl, ?_⟩, p1, p2, ?_⟩
              · have hn : ct (mt_gu (mt_gu (mt_gu G' 201 (341 * T + ρ) 1) 202 (341 * T + ρ) (nI o)) 203 (341 * T + ρ) v) (nI o) (341 * T + ρ) = v := by
                  unfold ct; rw [g.1, if_pos rfl, if_pos rfl, g.2.2.1, if_pos rfl, g.2.2.2]
                have hf : c_X4_used_ls (mt_gu (mt_gu (mt_gu G' 201 (341 * T + ρ) 1) 202 (341 * T + ρ) (nI o)) 203 (341 * T + ρ) v) (nI o) (-1) 2046 = c_X4_used_ls G' (nI o) (-1) 2046 - ct G' (nI o) (341 * T + ρ) + v := by
                  have hc : ∀ i, ¬ i = 341 * T + ρ → ct (mt_gu (mt_gu (mt_gu G' 201 (341 * T + ρ) 1) 202 (341 * T + ρ) (nI o)) 203 (341 * T + ρ) v) (nI o) i = ct G' (nI o) i := fun i hi => by
                    unfold ct; rw [g.1, if_neg hi, (g.2.1 i hi).1, (g.2.1 i hi).2]
                  rw [us_upd hc (Nat.le_refl 2046), if_pos (show 341 * T + ρ < 2046 by omega), hn]
                unfold c_X3_usedBy
                rw [o3, if_neg one_ne, nI_clamp (by omega), p1, hU2 o ho, hf]
              · rcases p3 with ⟨p3, p4⟩ | ⟨p3, p4⟩
                · exact Or.inl ⟨p3, p4⟩
                · exact Or.inr ⟨p3, p4⟩
            · right
              simp only [if_neg cq]
              exact ⟨3, Or.inr (Or.inr ⟨rfl, (by first | rfl | trivial)⟩), (by first | rfl | trivial), (by first | rfl | trivial), (by first | rfl | trivial), (by first | rfl | trivial)⟩
          · right
            rw [v5, v6]
            exact ⟨2, Or.inr (Or.inl ⟨rfl, (by first | rfl | trivial)⟩), (by first | rfl | trivial), (by first | rfl | trivial), (by first | rfl | trivial), (by first | rfl | trivial)⟩
        · right
          rw [cp_N hy, ip_N hy]
          exact ⟨1, Or.inl ⟨rfl, (by first | rfl | trivial)⟩, (by first | rfl | trivial), (by first | rfl | trivial), (by first | rfl | trivial), (by first | rfl | trivial)⟩
      · right
        have e : c_inI v 0 9999 = 0 := by unfold c_inI; rw [if_neg c0, if_pos (Int32.not_le.mp c9)]
        simp only [if_neg c9, e]
        exact ⟨1, Or.inl ⟨rfl, (by first | rfl | trivial)⟩, (by first | rfl | trivial), (by first | rfl | trivial), (by first | rfl | trivial), (by first | rfl | trivial)⟩
  · right
    have hco : c_X3_checkOwner x = .inl "java/lang/IllegalArgumentException" := by unfold c_X3_checkOwner; rw [o3, if_pos rfl]
    rw [hco, o4]
    exact ⟨1, Or.inl ⟨rfl, (by first | rfl | trivial)⟩, (by first | rfl | trivial), (by first | rfl | trivial), (by first | rfl | trivial), (by first | rfl | trivial)⟩
end SH

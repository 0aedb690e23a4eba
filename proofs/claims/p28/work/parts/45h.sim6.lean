/-! the layers, and what is shown -/
section SF
variable {lc mc bc a1 a2 a3 : Nat} {N G N1 G1 N' G' N2 G2 : Nat → Nat → Int32} {x y v k w b : Int32}
def RY (lc : Nat) (G G' : Nat → Nat → Int32) : Prop :=
  (∀ l r, l < lc → r < 341 → G (110 + l) r = G' 201 (341 * l + r)) ∧
  (∀ l r, l < lc → r < 341 → (G' 201 (341 * l + r) = 1 ∨ G' 201 (341 * l + r) = 2) → G (120 + l) r = G' 202 (341 * l + r) ∧ G (130 + l) r = G' 203 (341 * l + r)) ∧
  (∀ k, 341 * lc ≤ k → k < 2046 → G' 201 k = 0) ∧
  (∀ l, l < lc → G' 201 (341 * l) = 0) ∧
  (∀ k, k < 2046 → (G' 201 k = 1 ∨ G' 201 k = 2) → ∃ o, o < 4 ∧ G' 202 k = nI o) ∧
  (∀ k, k < 2046 → G' 201 k = 1 → ∃ n, n ≤ 9999 ∧ G' 203 k = nI n)
theorem mth_neg : c_X3_mountThere lc mc bc N G (-1) = none := by
  unfold c_X3_mountThere; rw [if_pos (by decide)]
theorem pt_z {ρ : Nat} (h : ρ < 341) : (nI (pth ρ) = 0 ↔ ρ = 0) := by
  constructor
  · intro q
    rcases Nat.eq_zero_or_pos ρ with e | e
    · exact e
    · have h1 := pt_pos ρ h (by omega)
      have h2 := pt_le ρ h
      exact absurd q (nI_ne0 (by omega) (by omega))
  · intro q; rw [q]; decide
/-- which mount serves a path, with which rest -/
theorem vw (h : R2 lc mc bc N G N' G') (hM : MI N' G') (hx : IsP x) :
    (c_X3_serverAt lc mc bc N G (nI (rkI x)) = -1 ∧ c_X3_mountThere lc mc bc N G (c_X3_serverAt lc mc bc N G (nI (rkI x))) = none ∧ c_X3_restAt lc mc bc N G (nI (rkI x)) = 0 ∧ c_X4_servedBy a1 a2 a3 N' G' x = -1)
    ∨ ∃ j ρ, j < mc ∧ ρ < 341 ∧ c_X3_serverAt lc mc bc N G (nI (rkI x)) = nI j ∧ c_X3_mountThere lc mc bc N G (c_X3_serverAt lc mc bc N G (nI (rkI x))) = some j ∧ c_X3_restAt lc mc bc N G (nI (rkI x)) = nI ρ ∧ c_X4_servedBy a1 a2 a3 N' G' x = nI j ∧ (c_X4_rest x (G' 205 j) = 0 ↔ ρ = 0) ∧ c_X4_rank (c_X4_rest x (G' 205 j)) = nI ρ := by
  have h8 := h.m8 hM
  have hm := h.1.1.2.1
  rw [sby (mc := mc) hm hx, sat_r h.2 hx.2, rat_r h.2 hx.2]
  by_cases c : svr G' mc (rkI x) = -1
  · left
    unfold svq
    rw [if_pos c, c]
    exact ⟨rfl, mth_neg, rfl, rfl⟩
  · right
    rcases sb_of G' (nI (pth (rkI x))) mc with q | ⟨j, q1, q2, q3, q4⟩
    · exact absurd q c
    · have e : svr G' mc (rkI x) = nI j := q2
      have hp := MI_pt hM (show j < mqN N' by omega)
      rw [← hx.1] at q4
      obtain ⟨r1, r2⟩ := bg_rest hx hp q4
      refine ⟨j, rsN (rkI x) (rkI (G' 205 j)), q1, r2, e, ?_, ?_, e, ?_, ?_⟩
      · rw [e, mth_k h8 q1, if_neg (by rw [← (h.1.2.1 j q1).2.2.2.1]; exact q3)]
      · unfold svq
        rw [if_neg c, e, nI_clamp (by omega)]
      · rw [r1]; exact pt_z r2
      · rw [r1, rank_eq (isP_pth r2).1, (isP_pth r2).2]
/-- a mount's layers -/
theorem ml (h : R2 lc mc bc N G N' G') (hM : MI N' G') {j : Nat} (hj : j < mc) :
    ∃ lo, lo < lc ∧ N (150 + j) 0 = nI lo ∧ G' 206 j = nI lo ∧ ((N (150 + j) 1 = -1 ∧ G' 207 j = -1) ∨ ∃ up, up < lc ∧ ¬ up = lo ∧ N (150 + j) 1 = nI up ∧ G' 207 j = nI up) := by
  obtain ⟨-, m2, m3, -, -, m6⟩ := h.1.2.1 j hj
  have hj' : j < mqN N' := by have := h.1.1.2.1; omega
  obtain ⟨lo, l1, l2⟩ := MI_lo hM hj'
  have hl := h.1.1.1
  refine ⟨lo, by omega, by rw [← m2]; exact l2, l2, ?_⟩
  rcases MI_up hM hj' with u | ⟨up, u1, u2⟩
  · exact Or.inl ⟨by rw [← m3]; exact u, u⟩
  · refine Or.inr ⟨up, by omega, fun e => m6 ?_, by rw [← m3]; exact u2, u2⟩
    rw [← m2, ← m3, l2, u2, e]
theorem ix {l ρ : Nat} : (341 : Int32) * nI l + nI ρ = nI (341 * l + ρ) := by
  rw [show (341 : Int32) = nI 341 from rfl, nI_mulN, nI_add]
theorem ixc {l ρ : Nat} (hl : l < 6) (hρ : ρ < 341) : ((341 : Int32) * nI l + nI ρ).toNatClampNeg = 341 * l + ρ := by rw [ix, nI_clamp (by omega)]
theorem l6 (hM : MI N' G') (h : lc = lqN N') : lc ≤ 6 := by rw [h]; exact hM.1
theorem in_r {r : Nat} (h : r < 341) : ¬ nI r < 0 ∧ ¬ (341 : Int32) ≤ nI r ∧ (nI r).toNatClampNeg = r := ⟨nI_pos (by omega), nI_ge (a := r) (b := 341) h (by decide), nI_clamp (by omega)⟩
theorem ka {l r : Nat} (hr : r < 341) : c_X1_kindAt lc mc bc N G l (nI r) = G (110 + l) r := by
  obtain ⟨h1, h2, h3⟩ := in_r hr
  unfold c_X1_kindAt; rw [if_neg h1, if_neg h2, h3]
theorem oa {l r : Nat} (hr : r < 341) : c_X1_ownerAt lc mc bc N G l (nI r) = G (120 + l) r := by
  obtain ⟨h1, h2, h3⟩ := in_r hr
  unfold c_X1_ownerAt; rw [if_neg h1, if_neg h2, h3]
theorem va {l r : Nat} (hr : r < 341) : c_X1_valueAt lc mc bc N G l (nI r) = G (130 + l) r := by
  obtain ⟨h1, h2, h3⟩ := in_r hr
  unfold c_X1_valueAt; rw [if_neg h1, if_neg h2, h3]
theorem ki {l r : Nat} (h6 : lc ≤ 6) (hL : RY lc G G') (hl : l < lc) (hr : r < 341) : c_X3_kindIn lc mc bc N G (nI l) (nI r) = G' 201 (341 * l + r) := by
  unfold c_X3_kindIn
  rw [lay_nI hl h6]
  show c_X1_kindAt lc mc bc N G l (nI r) = _
  rw [ka hr]; exact hL.1 l r hl hr
theorem lay_neg : c_X3_layerAt lc mc bc N G (-1) = none := by unfold c_X3_layerAt; rw [if_pos (by decide)]
theorem ki_neg : c_X3_kindIn lc mc bc N G (-1) y = 0 := by unfold c_X3_kindIn; rw [lay_neg]; rfl
theorem thing_0 {q : Int32} : (c_X3_isThing q = 0 ↔ ¬ (q = 1 ∨ q = 2)) := by
  unfold c_X3_isThing
  by_cases h1 : q = 1
  · rw [if_pos h1]; exact ⟨fun h => absurd h one_ne, fun h => absurd (Or.inl h1) h⟩
  · rw [if_neg h1]
    by_cases h2 : q = 2
    · rw [if_pos h2]; exact ⟨fun h => absurd h one_ne, fun h => absurd (Or.inr h2) h⟩
    · rw [if_neg h2]; exact ⟨fun _ => fun h => h.elim h1 h2, fun _ => rfl⟩
/-- what a path shows, on both sides -/
theorem sh (h : R2 lc mc bc N G N' G') (hL : RY lc G G') (hM : MI N' G') (hx : IsP x) :
    (∃ j ρ L, j < mc ∧ 0 < ρ ∧ ρ < 341 ∧ L < lc ∧ c_X3_serverAt lc mc bc N G (nI (rkI x)) = nI j ∧ c_X3_restAt lc mc bc N G (nI (rkI x)) = nI ρ ∧ c_X4_servedBy a1 a2 a3 N' G' x = nI j ∧ c_X3_layerShown lc mc bc N G (nI (rkI x)) = nI L ∧ c_X4_shown a1 a2 a3 N' G' x = nI (341 * L + ρ) ∧ (G' 201 (341 * L + ρ) = 1 ∨ G' 201 (341 * L + ρ) = 2) ∧ (N (150 + j) 0 = nI L ∨ N (150 + j) 1 = nI L))
    ∨ (c_X3_layerShown lc mc bc N G (nI (rkI x)) = -1 ∧ c_X4_shown a1 a2 a3 N' G' x = -1) := by
  have h6 := l6 hM h.1.1.1
  have h8 := h.m8 hM
  unfold c_X3_layerShown c_X4_shown
  rcases vw (a1 := a1) (a2 := a2) (a3 := a3) h hM hx with ⟨v1, v2, v3, v4⟩ | ⟨j, ρ, hj, hρ, v1, v2, v3, v4, v5, v6⟩
  · right
    rw [v2, v3, v4, if_pos rfl]
    exact ⟨rfl, rfl⟩
  · obtain ⟨lo, hlo, n0, g6, hup⟩ := ml h hM hj
    rw [v2, v4, if_neg (neg_nI (by omega)), nI_clamp (by omega), v6, g6]
    show (∃ j_1 ρ_1 L, _ ∧ _ ∧ _ ∧ _ ∧ _ ∧ _ ∧ _ ∧ c_X3_layerShownBy lc mc bc N G (some j) (c_X3_restAt lc mc bc N G (nI (rkI x))) = _ ∧ _) ∨ (c_X3_layerShownBy lc mc bc N G (some j) (c_X3_restAt lc mc bc N G (nI (rkI x))) = _ ∧ _)
    rw [v3]
    unfold c_X3_layerShownBy
    show (∃ j_1 ρ_1 L, _ ∧ _ ∧ _ ∧ _ ∧ _ ∧ _ ∧ _ ∧ (if c_X3_kindIn lc mc bc N G (N (150 + j) 1) (nI ρ) = 0 then (if c_X3_isThing (c_X3_kindIn lc mc bc N G (N (150 + j) 0) (nI ρ)) = 0 then (-1 : Int32) else N (150 + j) 0) else (if c_X3_isThing (c_X3_kindIn lc mc bc N G (N (150 + j) 1) (nI ρ)) = 0 then (-1) else N (150 + j) 1)) = _ ∧ _) ∨ ((if c_X3_kindIn lc mc bc N G (N (150 + j) 1) (nI ρ) = 0 then (if c_X3_isThing (c_X3_kindIn lc mc bc N G (N (150 + j) 0) (nI ρ)) = 0 then (-1 : Int32) else N (150 + j) 0) else (if c_X3_isThing (c_X3_kindIn lc mc bc N G (N (150 + j) 1) (nI ρ)) = 0 then (-1) else N (150 + j) 1)) = _ ∧ _)
    rw [n0, ki h6 hL hlo hρ, ixc (by omega) hρ, ix]
    by_cases hz : ρ = 0
    · right
      have z1 : G' 201 (341 * lo + ρ) = 0 := by rw [hz, Nat.add_zero]; exact hL.2.2.2.1 lo hlo
      have zt : c_X3_isThing 0 = 0 := by decide
      rw [if_pos (v5.mpr hz), z1]
      rcases hup with ⟨u1, -⟩ | ⟨up, hup, -, u1, -⟩
      · rw [u1, ki_neg, if_pos rfl, if_pos zt]; exact ⟨rfl, rfl⟩
      · have z2 : G' 201 (341 * up + ρ) = 0 := by rw [hz, Nat.add_zero]; exact hL.2.2.2.1 up hup
        rw [u1, ki h6 hL hup hρ, z2, if_pos rfl, if_pos zt]; exact ⟨rfl, rfl⟩
    · rw [if_neg (fun q => hz (v5.mp q))]
      have lower : ∀ (A B : Int32), A = (if c_X3_isThing (G' 201 (341 * lo + ρ)) = 0 then -1 else nI lo) → B = (if G' 201 (341 * lo + ρ) = 1 then nI (341 * lo + ρ) else if G' 201 (341 * lo + ρ) = 2 then nI (341 * lo + ρ) else -1) →
          ((A = nI lo ∧ B = nI (341 * lo + ρ) ∧ (G' 201 (341 * lo + ρ) = 1 ∨ G' 201 (341 * lo + ρ) = 2)) ∨ (A = -1 ∧ B = -1)) := by
        intro A B hA hB
        by_cases t : c_X3_isThing (G' 201 (341 * lo + ρ)) = 0
        · have t2 := thing_0.mp t
          rw [if_pos t] at hA
          rw [if_neg (fun q => t2 (Or.inl q)), if_neg (fun q => t2 (Or.inr q))] at hB
          exact Or.inr ⟨hA, hB⟩
        · have t2 : G' 201 (341 * lo + ρ) = 1 ∨ G' 201 (341 * lo + ρ) = 2 := Classical.byContradiction (fun q => t (thing_0.mpr q))
          rw [if_neg t] at hA
          refine Or.inl ⟨hA, ?_, t2⟩
          rcases t2 with q | q
          · rw [if_pos q] at hB; exact hB
          · rw [if_neg (by rw [q]; decide), if_pos q] at hB; exact hB
      rcases hup with ⟨u1, u2⟩ | ⟨up, hup, hne, u1, u2⟩
      · rw [u1, ki_neg, if_pos rfl, u2, if_pos rfl]
        rcases lower _ _ rfl rfl with ⟨q1, q2, q3⟩ | ⟨q1, q2⟩
        · exact Or.inl ⟨j, ρ, lo, hj, by omega, hρ, hlo, v1, rfl, rfl, q1, q2, q3, Or.inl n0⟩
        · exact Or.inr ⟨q1, q2⟩
      · rw [u1, ki h6 hL hup hρ, u2, if_neg (neg_nI (by omega)), ixc (by omega) hρ, ix]
        by_cases c : G' 201 (341 * up + ρ) = 0
        · rw [if_pos c, if_pos c]
          rcases lower _ _ rfl rfl with ⟨q1, q2, q3⟩ | ⟨q1, q2⟩
          · exact Or.inl ⟨j, ρ, lo, hj, by omega, hρ, hlo, v1, rfl, rfl, q1, q2, q3, Or.inl n0⟩
          · exact Or.inr ⟨q1, q2⟩
        · rw [if_neg c, if_neg c]
          by_cases t : c_X3_isThing (G' 201 (341 * up + ρ)) = 0
          · have t2 := thing_0.mp t
            right
            rw [if_pos t, if_neg (fun q => t2 (Or.inl q)), if_neg (fun q => t2 (Or.inr q))]
            exact ⟨rfl, rfl⟩
          · have t2 : G' 201 (341 * up + ρ) = 1 ∨ G' 201 (341 * up + ρ) = 2 := Classical.byContradiction (fun q => t (thing_0.mpr q))
            left
            rw [if_neg t]
            refine ⟨j, ρ, up, hj, by omega, hρ, hup, v1, rfl, rfl, rfl, ?_, t2, Or.inr u1⟩
            rcases t2 with q | q
            · rw [if_pos q]
            · rw [if_neg (by rw [q]; decide), if_pos q]
end SF

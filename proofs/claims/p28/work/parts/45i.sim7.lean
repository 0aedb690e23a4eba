/-! what a change does, on both sides -/
section SG
variable {lc mc bc a1 a2 a3 : Nat} {N G N1 G1 N' G' N2 G2 : Nat → Nat → Int32} {x y v k w b : Int32}
theorem ac3 (a b c : Int32) : a + b + c = a + c + b := by rw [Int32.add_assoc, Int32.add_comm b c, ← Int32.add_assoc]
theorem alg1 (a c e d : Int32) : (a - c + e) + d = (a + d) - c + e := by
  rw [Int32.sub_eq_add_neg, Int32.sub_eq_add_neg, ac3 _ e d, ac3 a (-c) d]
theorem alg2 (a c d : Int32) : (a - c) + d = (a + d) - c := by
  rw [Int32.sub_eq_add_neg, Int32.sub_eq_add_neg, ac3 a (-c) d]
/-- what is at a place of the reference's rows, for an owner -/
def ct (G' : Nat → Nat → Int32) (x : Int32) (i : Nat) : Int32 := if G' 201 i = 1 then (if G' 202 i = x then G' 203 i else 0) else 0
theorem us_s {n : Nat} (hn : n < 2 ^ 31) : c_X4_used_ls G' x (-1) (n + 1) = c_X4_used_ls G' x (-1) n + ct G' x n := by
  rw [c_X4_used_ls]
  unfold ct
  rw [if_neg (neg_nI hn)]
  by_cases h1 : G' 201 n = 1
  · rw [if_pos h1, if_pos h1]
    by_cases h2 : G' 202 n = x
    · rw [if_pos h2, if_pos h2]
    · rw [if_neg h2, if_neg h2]
  · rw [if_neg h1, if_neg h1]
theorem us_upd {t : Nat} (h : ∀ i, ¬ i = t → ct G2 x i = ct G' x i) {n : Nat} (hn : n ≤ 2046) : c_X4_used_ls G2 x (-1) n = if t < n then c_X4_used_ls G' x (-1) n - ct G' x t + ct G2 x t else c_X4_used_ls G' x (-1) n := by
  induction n with
  | zero => rfl
  | succ n ih =>
    rw [us_s (by omega), us_s (by omega), ih (by omega)]
    by_cases e : n = t
    · subst e
      rw [if_neg (by omega), if_pos (by omega), Int32.add_sub_cancel]
    · rw [h n e]
      by_cases e2 : t < n
      · rw [if_pos e2, if_pos (by omega), alg1]
      · rw [if_neg e2, if_neg (by omega)]
theorem us_but {t n : Nat} (ht : t < 2046) (hn : n ≤ 2046) : c_X4_used_ls G' x (nI t) n = if t < n then c_X4_used_ls G' x (-1) n - ct G' x t else c_X4_used_ls G' x (-1) n := by
  induction n with
  | zero => rfl
  | succ n ih =>
    rw [us_s (by omega), c_X4_used_ls, ih (by omega)]
    by_cases e : n = t
    · subst e
      rw [if_neg (Nat.lt_irrefl n), if_pos (Nat.lt_succ_self n), Int32.add_sub_cancel, if_pos rfl]
      split
      · split <;> exact Int32.add_zero _
      · exact Int32.add_zero _
    · have e3 : ¬ nI n = nI t := fun q => e ((nI_eq (by omega) (by omega)).mp q)
      rw [if_neg e3]
      unfold ct
      by_cases e2 : t < n
      · rw [if_pos e2, if_pos (show t < n + 1 by omega)]
        by_cases h1 : G' 201 n = 1
        · rw [if_pos h1, if_pos h1]
          by_cases h2 : G' 202 n = x
          · rw [if_pos h2, if_pos h2, alg2]
          · rw [if_neg h2, if_neg h2, alg2]
        · rw [if_neg h1, if_neg h1, alg2]
      · rw [if_neg e2, if_neg (show ¬ t < n + 1 by omega)]
        by_cases h1 : G' 201 n = 1
        · rw [if_pos h1, if_pos h1]
          by_cases h2 : G' 202 n = x
          · rw [if_pos h2, if_pos h2]
          · rw [if_neg h2, if_neg h2]
        · rw [if_neg h1, if_neg h1]
/-- what owners use -/
def RU (G G' : Nat → Nat → Int32) : Prop := ∀ o, o < 4 → G 4 o = c_X4_used_ls G' (nI o) (-1) 2046
theorem use4 {o : Nat} (ho : o < 4) : c_X3_use_G lc mc bc N G x v 4 o = if x = nI o then G 4 o + v else G 4 o := by
  unfold c_X3_use_G
  rcases ow x with ⟨j, hj, rfl, h3, -⟩ | ⟨h3, -⟩
  · rw [h3, if_neg one_ne, gu_s, nI_clamp (by omega)]
    by_cases e : o = j
    · subst e; rw [if_pos rfl, if_pos rfl]
    · rw [if_neg e, if_neg (fun q => e ((nI_eq (by omega) (by omega)).mp q).symm)]
  · rw [h3, if_pos rfl]
    by_cases e : x = nI o
    · rw [e, ow_3n o ho] at h3; exact absurd h3 one_ne
    · rw [if_neg e]
theorem use_n {p i : Nat} (h : ¬ p = 4) : c_X3_use_G lc mc bc N G x v p i = G p i := by
  unfold c_X3_use_G
  split
  · rfl
  · exact gu_n h
/-- the bytes at a place of a layer -/
def bo (G : Nat → Nat → Int32) (T ρ : Nat) : Int32 := if G (110 + T) ρ = 1 then G (130 + T) ρ else 0
theorem bA {T ρ : Nat} (hρ : ρ < 341) : c_X1_bytesAt lc mc bc N G T (nI ρ) = bo G T ρ := by
  unfold c_X1_bytesAt bo; rw [ka hρ, va hρ]
theorem put_e {T ρ : Nat} (hρ : ρ < 341) : c_X1_put_G lc mc bc N G T (nI ρ) k w v = mt_gu (mt_gu (mt_gu G (110 + T) ρ k) (120 + T) ρ w) (130 + T) ρ v := by
  unfold c_X1_put_G
  rw [if_neg (fun q => (pl_in (by omega)).mp q hρ), nI_clamp (by omega)]
/-- a change of one place of one layer -/
def chG (G : Nat → Nat → Int32) (T ρ : Nat) (k w v : Int32) : Nat → Nat → Int32 := c_X3_change_G 0 0 0 G G (some T) (nI ρ) k w v
theorem ch_e {T ρ : Nat} : c_X3_change_G lc mc bc N G (some T) (nI ρ) k w v = chG G T ρ k w v := rfl
theorem ch_k {T ρ l r : Nat} (hρ : ρ < 341) (hT : T < 6) (hl : l < 6) : chG G T ρ k w v (110 + l) r = (if l = T ∧ r = ρ then k else G (110 + l) r) ∧ chG G T ρ k w v (120 + l) r = (if l = T ∧ r = ρ then w else G (120 + l) r) ∧ chG G T ρ k w v (130 + l) r = (if l = T ∧ r = ρ then v else G (130 + l) r) := by
  unfold chG c_X3_change_G
  show c_X3_use_G 0 0 0 G _ _ _ _ _ = _ ∧ c_X3_use_G 0 0 0 G _ _ _ _ _ = _ ∧ c_X3_use_G 0 0 0 G _ _ _ _ _ = _
  rw [use_n (by omega), use_n (by omega), use_n (by omega), put_e hρ]
  by_cases e : l = T
  · subst e
    refine ⟨?_, ?_, ?_⟩
    · rw [gu_n (by omega), gu_n (by omega), gu_s, use_n (by omega)]; simp
    · rw [gu_n (by omega), gu_s, gu_n (by omega), use_n (by omega)]; simp
    · rw [gu_s, gu_n (by omega), gu_n (by omega), use_n (by omega)]; simp
  · refine ⟨?_, ?_, ?_⟩ <;> (rw [gu_n (by omega), gu_n (by omega), gu_n (by omega), use_n (by omega)]; simp [e])
theorem ch_4 {T ρ o : Nat} (hρ : ρ < 341) (hT : T < 6) (ho : o < 4) : chG G T ρ k w v 4 o = (if G (120 + T) ρ = nI o then G 4 o - bo G T ρ else G 4 o) + (if w = nI o then (if k = 1 then v else 0) else 0) := by
  unfold chG c_X3_change_G
  show c_X3_use_G 0 0 0 G (c_X1_put_G 0 0 0 G (c_X3_use_G 0 0 0 G G (c_X1_ownerAt 0 0 0 G G T (nI ρ)) (-(c_X1_bytesAt 0 0 0 G G T (nI ρ)))) T (nI ρ) k w v) w (c_X1_bytesAt 0 0 0 G (c_X1_put_G 0 0 0 G (c_X3_use_G 0 0 0 G G (c_X1_ownerAt 0 0 0 G G T (nI ρ)) (-(c_X1_bytesAt 0 0 0 G G T (nI ρ)))) T (nI ρ) k w v) T (nI ρ)) 4 o = _
  rw [use4 ho, put_e hρ, bA hρ, bA hρ, oa hρ, gu_n (by omega), gu_n (by omega), gu_n (by omega), use4 ho]
  have e : bo (mt_gu (mt_gu (mt_gu (c_X3_use_G 0 0 0 G G (G (120 + T) ρ) (-bo G T ρ)) (110 + T) ρ k) (120 + T) ρ w) (130 + T) ρ v) T ρ = if k = 1 then v else 0 := by
    unfold bo
    rw [gu_n (by omega), gu_n (by omega), gu_s, if_pos rfl, gu_s, if_pos rfl]
  rw [e, Int32.sub_eq_add_neg]
  by_cases c : w = nI o
  · rw [if_pos c, if_pos c]
  · rw [if_neg c, if_neg c, Int32.add_zero]
theorem ch_n {T ρ p i : Nat} (hρ : ρ < 341) (hp : ¬ p = 4 ∧ ¬ p = 110 + T ∧ ¬ p = 120 + T ∧ ¬ p = 130 + T) : chG G T ρ k w v p i = G p i := by
  unfold chG c_X3_change_G
  show c_X3_use_G 0 0 0 G _ _ _ _ _ = _
  rw [use_n hp.1, put_e hρ, gu_n hp.2.2.2, gu_n hp.2.2.1, gu_n hp.2.1, use_n hp.1]
/-- the layers stay in step -/
theorem RY.put {T ρ : Nat} (h6 : lc ≤ 6) (h : RY lc G G') (hT : T < lc) (h0 : ¬ ρ = 0) (hρ : ρ < 341)
    (g1 : ∀ i, G2 201 i = if i = 341 * T + ρ then k else G' 201 i) (g2 : ∀ i, ¬ i = 341 * T + ρ → G2 202 i = G' 202 i ∧ G2 203 i = G' 203 i) (g3 : (k = 1 ∨ k = 2) → G2 202 (341 * T + ρ) = w ∧ G2 203 (341 * T + ρ) = v)
    (hw : (k = 1 ∨ k = 2) → ∃ o, o < 4 ∧ w = nI o) (hv : k = 1 → ∃ n, n ≤ 9999 ∧ v = nI n) : RY lc (chG G T ρ k w v) G2 := by
  obtain ⟨r1, r2, r3, r4, r5, r6⟩ := h
  refine ⟨fun l r hl hr => ?_, fun l r hl hr hk => ?_, fun i h1 h2 => ?_, fun l hl => ?_, fun i hi hk => ?_, fun i hi hk => ?_⟩
  · rw [(ch_k hρ (by omega) (by omega)).1, g1, r1 l r hl hr]
    by_cases e : l = T ∧ r = ρ
    · rw [if_pos e, if_pos (by rw [e.1, e.2])]
    · rw [if_neg e, if_neg (by omega)]
  · obtain ⟨-, q2, q3⟩ := ch_k (G := G) (k := k) (w := w) (v := v) (l := l) (r := r) hρ (show T < 6 by omega) (show l < 6 by omega)
    rw [q2, q3]
    rw [g1] at hk
    by_cases e : l = T ∧ r = ρ
    · obtain ⟨e1, e2⟩ := e
      subst e1; subst e2
      rw [if_pos rfl] at hk
      rw [if_pos ⟨rfl, rfl⟩, if_pos ⟨rfl, rfl⟩, (g3 hk).1, (g3 hk).2]; exact ⟨rfl, rfl⟩
    · have e9 : ¬ 341 * l + r = 341 * T + ρ := by omega
      rw [if_neg e9] at hk
      rw [if_neg e, if_neg e, (g2 _ e9).1, (g2 _ e9).2]; exact r2 l r hl hr hk
  · rw [g1, if_neg (by omega)]; exact r3 i h1 h2
  · rw [g1, if_neg (by omega)]; exact r4 l hl
  · rw [g1] at hk
    by_cases e : i = 341 * T + ρ
    · rw [if_pos e] at hk; subst e; rw [(g3 hk).1]; exact hw hk
    · rw [if_neg e] at hk; rw [(g2 i e).1]; exact r5 i hi hk
  · rw [g1] at hk
    by_cases e : i = 341 * T + ρ
    · rw [if_pos e] at hk; subst e; rw [(g3 (Or.inl hk)).2]; exact hv hk
    · rw [if_neg e] at hk; rw [(g2 i e).2]; exact r6 i hi hk
/-- what owners use stays in step -/
theorem ct_old {T ρ o : Nat} (h : RY lc G G') (hT : T < lc) (hρ : ρ < 341) : (if G (120 + T) ρ = nI o then bo G T ρ else 0) = ct G' (nI o) (341 * T + ρ) := by
  unfold bo ct
  rw [h.1 T ρ hT hρ]
  by_cases c : G' 201 (341 * T + ρ) = 1
  · obtain ⟨q1, q2⟩ := h.2.1 T ρ hT hρ (Or.inl c)
    rw [if_pos c, if_pos c, q1, q2]
  · rw [if_neg c, if_neg c]; split <;> rfl
theorem RU.put {T ρ : Nat} (h6 : lc ≤ 6) (hL : RY lc G G') (h : RU G G') (hT : T < lc) (hρ : ρ < 341)
    (g1 : ∀ i, G2 201 i = if i = 341 * T + ρ then k else G' 201 i) (g2 : ∀ i, ¬ i = 341 * T + ρ → G2 202 i = G' 202 i ∧ G2 203 i = G' 203 i) (g3 : (k = 1 ∨ k = 2) → G2 202 (341 * T + ρ) = w ∧ G2 203 (341 * T + ρ) = v) : RU (chG G T ρ k w v) G2 := fun o ho => by
  have hct : ∀ i, ¬ i = 341 * T + ρ → ct G2 (nI o) i = ct G' (nI o) i := fun i hi => by
    unfold ct; rw [g1, if_neg hi, (g2 i hi).1, (g2 i hi).2]
  have hnew : ct G2 (nI o) (341 * T + ρ) = if w = nI o then (if k = 1 then v else 0) else 0 := by
    unfold ct
    rw [g1, if_pos rfl]
    by_cases c : k = 1
    · rw [if_pos c, if_pos c, (g3 (Or.inl c)).1, (g3 (Or.inl c)).2]
    · rw [if_neg c, if_neg c]; split <;> rfl
  rw [ch_4 hρ (by omega) ho, us_upd hct (Nat.le_refl 2046), if_pos (show 341 * T + ρ < 2046 by omega), hnew, ← ct_old (o := o) hL hT hρ, ← h o ho]
  by_cases c : G (120 + T) ρ = nI o
  · rw [if_pos c, if_pos c]
  · rw [if_neg c, if_neg c, Int32.sub_zero]
end SG

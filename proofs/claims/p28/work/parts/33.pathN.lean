/-- the paths by their rank: bijective digits 1 to 4 -/
def pthN : Nat → Nat → Nat
  | 0, _ => 0
  | n + 1, r => if r = 0 then 0 else 10 * pthN n ((r - 1) / 4) + ((r - 1) % 4 + 1)
def pth (r : Nat) : Nat := pthN 4 r
def dn (r : Nat) : Nat := if r = 0 then 0 else if r < 5 then 1 else if r < 21 then 2 else if r < 85 then 3 else 4
def anc (r : Nat) : Nat → Nat
  | 0 => r
  | k + 1 => (anc r k - 1) / 4
def rkN : Nat → Nat → Nat
  | 0, _ => 0
  | n + 1, a => if a = 0 then 0 else 4 * rkN n (a / 10) + a % 10
def rk (a : Nat) : Nat := rkN 4 a
def okd : Nat → Nat → Bool
  | 0, _ => true
  | n + 1, a => if a = 0 then true else (decide (1 ≤ a % 10) && decide (a % 10 ≤ 4) && okd n (a / 10))
theorem pt_le : ∀ r, r < 341 → pth r ≤ 4444 := by decide +kernel
theorem pt_div : ∀ r, r < 341 → pth r / 10 = pth ((r - 1) / 4) := by decide +kernel
theorem pt_pos : ∀ r, r < 341 → r ≠ 0 → pth r ≠ 0 := by decide +kernel
theorem pt_rk : ∀ r, r < 341 → rk (pth r) = r := by decide +kernel
theorem pt_ok : ∀ r, r < 341 → okd 4 (pth r) = true := by decide +kernel
theorem pt_all : (List.range 4445).all (fun a => !okd 4 a || (decide (rk a < 341) && decide (pth (rk a) = a))) = true := by decide +kernel
theorem pt_of {a : Nat} (ha : a ≤ 4444) (h : okd 4 a = true) : rk a < 341 ∧ pth (rk a) = a := by
  have h1 := List.all_eq_true.mp pt_all a (List.mem_range.mpr (by omega))
  rw [h] at h1
  simp at h1
  exact h1
theorem anc_le (r k : Nat) : anc r k ≤ r := by
  induction k with
  | zero => exact Nat.le_refl _
  | succ k ih => rw [anc]; omega
theorem dn_le (r : Nat) : dn r ≤ 4 := by unfold dn; repeat' split
                                         all_goals omega
theorem dn_anc : ∀ r, r < 341 → ∀ k, k < 5 → (k < dn r ↔ anc r k ≠ 0) := by decide +kernel
theorem dn_end {r : Nat} (h : r < 341) : anc r (dn r) = 0 := by
  have h1 := dn_anc r h (dn r) (by have := dn_le r; omega)
  exact Decidable.byContradiction fun q => absurd (h1.mpr q) (Nat.lt_irrefl _)
theorem nI_divN {a b : Nat} (ha : a < 2 ^ 31) (hb : b < 2 ^ 31) : nI a / nI b = nI (a / b) := by
  have hc : a / b < 2 ^ 31 := Nat.lt_of_le_of_lt (Nat.div_le_self _ _) ha
  rw [← Int32.toInt_inj, Int32.toInt_div, nI_toInt ha, nI_toInt hb, nI_toInt hc]
  rw [← Int.ofNat_tdiv]
  generalize a / b = q at hc ⊢
  exact Int.bmod_eq_of_le (by omega) (by omega)
theorem nI_mulN (a b : Nat) : nI a * nI b = nI (a * b) := (Int32.ofNat_mul a b).symm
theorem nI_subN {a b : Nat} (h : b ≤ a) : nI a - nI b = nI (a - b) := by
  have e : nI a = nI (a - b) + nI b := by rw [nI_add, Nat.sub_add_cancel h]
  rw [e, Int32.add_sub_cancel]
theorem nI_modN {a b : Nat} (ha : a < 2 ^ 31) (hb : b < 2 ^ 31) : nI a - nI a / nI b * nI b = nI (a % b) := by
  rw [nI_divN ha hb, nI_mulN, nI_subN (Nat.div_mul_le_self _ _)]
  congr 1
  have := Nat.div_add_mod a b
  rw [Nat.mul_comm] at this
  omega
def rkI (x : Int32) : Nat := rk x.toNatClampNeg
def IsP (x : Int32) : Prop := x = nI (pth (rkI x)) ∧ rkI x < 341
theorem isP_pth {r : Nat} (h : r < 341) : IsP (nI (pth r)) ∧ rkI (nI (pth r)) = r := by
  have e : rkI (nI (pth r)) = r := by unfold rkI; rw [nI_clamp (by have := pt_le r h; omega), pt_rk r h]
  exact ⟨⟨by rw [e], by rw [e]; exact h⟩, e⟩
def IsR (x : Int32) : Prop := x = nI x.toNatClampNeg ∧ x.toNatClampNeg < 341
/-- how often 10 divides until nothing is left -/
def dgN : Nat → Nat → Nat
  | 0, _ => 0
  | n + 1, a => if a = 0 then 0 else dgN n (a / 10) + 1
def lft (x : Int32) : Nat → Int32
  | 0 => x
  | k + 1 => lft x k / 10
def kx (x : Int32) : Nat := if x < 0 then 0 else dgN 10 x.toNatClampNeg
theorem lft_N {a : Nat} (h : a < 2 ^ 31) (k : Nat) : lft (nI a) k = nI (a / 10 ^ k) := by
  induction k with
  | zero => rw [lft, Nat.pow_zero, Nat.div_one]
  | succ k ih =>
    rw [lft, ih, show (10 : Int32) = nI 10 by decide, nI_divN (Nat.lt_of_le_of_lt (Nat.div_le_self _ _) h) (by decide), Nat.div_div_eq_div_mul, Nat.pow_succ]
theorem dgN_s (n a k : Nat) : a < 10 ^ n → (k < dgN n a ↔ a / 10 ^ k ≠ 0) := by
  induction n generalizing a k with
  | zero => intro h; have : a = 0 := by omega
            subst this; rw [dgN, Nat.zero_div]; omega
  | succ n ih =>
    intro h
    rw [dgN]
    by_cases h0 : a = 0
    · subst h0; rw [if_pos rfl, Nat.zero_div]; omega
    · rw [if_neg h0]
      cases k with
      | zero => rw [Nat.pow_zero, Nat.div_one]; omega
      | succ k =>
        have h1 := ih (a / 10) k (by rw [Nat.pow_succ] at h; omega)
        rw [Nat.div_div_eq_div_mul] at h1
        rw [Nat.pow_succ, Nat.mul_comm (10 ^ k) 10]
        omega
theorem kx_b {x : Int32} {k : Nat} (h : k < kx x) : ¬ lft x k ≤ 0 := by
  unfold kx at h
  by_cases h0 : x < 0
  · rw [if_pos h0] at h; omega
  · rw [if_neg h0] at h
    obtain ⟨a, ha, rfl⟩ := nI_of h0
    rw [nI_clamp ha] at h
    rw [lft_N ha]
    have h1 := (dgN_s 10 a k (by omega)).mp h
    exact nI_nle (Nat.pos_of_ne_zero h1) (Nat.lt_of_le_of_lt (Nat.div_le_self _ _) ha)
theorem kx_e {x : Int32} : lft x (kx x) ≤ 0 := by
  unfold kx
  by_cases h0 : x < 0
  · rw [if_pos h0]; exact Int32.le_of_lt h0
  · rw [if_neg h0]
    obtain ⟨a, ha, rfl⟩ := nI_of h0
    rw [nI_clamp ha, lft_N ha]
    have h1 : a / 10 ^ dgN 10 a = 0 := Decidable.byContradiction fun q => absurd ((dgN_s 10 a _ (by omega)).mpr q) (Nat.lt_irrefl _)
    rw [h1]; decide
def c_pw (b : Int32) : Nat → Int32
  | 0 => 1
  | k + 1 => c_pw b k * b
theorem pwx_e {n : Int32} : n ≤ nI n.toNatClampNeg := by
  by_cases h : n < 0
  · have e : n.toNatClampNeg = 0 := by
      rw [Int32.lt_iff_toInt_lt] at h
      have : n.toNatClampNeg = n.toInt.toNat := rfl
      rw [this, Int.toNat_eq_zero]
      have : (0 : Int32).toInt = 0 := rfl
      omega
    rw [e]; exact Int32.le_of_lt h
  · obtain ⟨a, ha, rfl⟩ := nI_of h
    rw [nI_clamp ha]; exact Int32.le_refl _
theorem pwx_b {n : Int32} {k : Nat} (h : k < n.toNatClampNeg) : ¬ n ≤ nI k := by
  by_cases h0 : n < 0
  · exfalso
    have e : n.toNatClampNeg = 0 := by
      rw [Int32.lt_iff_toInt_lt] at h0
      have : n.toNatClampNeg = n.toInt.toNat := rfl
      rw [this, Int.toNat_eq_zero]
      have : (0 : Int32).toInt = 0 := rfl
      omega
    omega
  · obtain ⟨a, ha, rfl⟩ := nI_of h0
    rw [nI_clamp ha] at h
    exact nI_ge h ha
theorem pw10_ne : ∀ j, j ≤ 9 → ¬ c_pw 10 j = 0 := by
  intro j hj
  have : ∀ j, j < 10 → ¬ c_pw 10 j = 0 := by decide +kernel
  exact this j (by omega)
theorem pw4_ne : ∀ j, j ≤ 9 → ¬ c_pw 4 j = 0 := by
  intro j hj
  have : ∀ j, j < 10 → ¬ c_pw 4 j = 0 := by decide +kernel
  exact this j (by omega)
theorem dn_sub (a b : Nat) : (nI (dn a) - nI (dn b)).toNatClampNeg ≤ 9 := by
  have h : ∀ a, a < 5 → ∀ b, b < 5 → (nI a - nI b).toNatClampNeg ≤ 9 := by decide +kernel
  exact h _ (by have := dn_le a; omega) _ (by have := dn_le b; omega)
def kI (j : Nat) : Int32 := nI j - 1
theorem kI_s (j : Nat) : kI (j + 1) = nI j := nI_pred j
theorem kI_b {n k : Nat} (h : k < n) (hn : n ≤ 4) : ¬ kI (n - k) < 0 ∧ (kI (n - k)).toNatClampNeg ≤ 9 ∧ kI (n - k) + -1 = kI (n - (k + 1)) := by
  have h1 : ∀ n, n < 5 → ∀ k, k < n → ¬ kI (n - k) < 0 ∧ (kI (n - k)).toNatClampNeg ≤ 9 ∧ kI (n - k) + -1 = kI (n - (k + 1)) := by decide +kernel
  exact h1 n (by omega) k h
theorem kI_e (n : Nat) : kI (n - n) < 0 := by rw [Nat.sub_self]; decide
def Fn (k : Nat) : Nat := (4 ^ k - 1) / 3
theorem pof_b : ∀ r, r < 341 → ∀ k, k < 5 → k < dn r → ¬ nI (r - Fn k) < c_pw 4 (nI k).toNatClampNeg ∧ nI (r - Fn k) - c_pw 4 (nI k).toNatClampNeg = nI (r - Fn (k + 1)) := by decide +kernel
theorem pof_e : ∀ r, r < 341 → nI (r - Fn (dn r)) < c_pw 4 (nI (dn r)).toNatClampNeg := by decide +kernel
theorem lg_lt {a b : Int64} : lg_cmp a b < 0 ↔ a < b := by
  unfold lg_cmp
  by_cases h1 : b < a
  · rw [if_pos h1]
    exact ⟨fun h => absurd h (by decide), fun h => absurd h (Int64.not_lt.mpr (Int64.le_of_lt h1))⟩
  · rw [if_neg h1]
    by_cases h2 : a = b
    · rw [if_pos h2, h2]
      exact ⟨fun h => absurd h (by decide), fun h => absurd h (Int64.lt_irrefl)⟩
    · rw [if_neg h2]
      refine ⟨fun _ => ?_, fun _ => by decide⟩
      rcases Int64.lt_or_lt_of_ne h2 with h | h
      · exact h
      · exact absurd h h1
theorem lg_gt {a b : Int64} : 0 < lg_cmp a b ↔ b < a := by
  unfold lg_cmp
  by_cases h1 : b < a
  · rw [if_pos h1]
    exact ⟨fun _ => h1, fun _ => by decide⟩
  · rw [if_neg h1]
    by_cases h2 : a = b
    · rw [if_pos h2]
      exact ⟨fun h => absurd h (by decide), fun h => absurd h h1⟩
    · rw [if_neg h2]
      exact ⟨fun h => absurd h (by decide), fun h => absurd h h1⟩
theorem s64_lt {a b : Int32} : a.toInt64 < b.toInt64 ↔ a < b := by rw [Int64.lt_iff_toInt_lt, Int32.lt_iff_toInt_lt, Int32.toInt_toInt64, Int32.toInt_toInt64]
theorem dig_e {x : Int32} (h : IsP x) : nI (pth (anc (rkI x) (dn (rkI x)))) ≤ 0 := by rw [dn_end h.2]; decide
theorem dig_b {x : Int32} {k : Nat} (h : IsP x) (hk : k < dn (rkI x)) : ¬ nI (pth (anc (rkI x) k)) ≤ 0 := by
  have h1 := (dn_anc _ h.2 k (by have := dn_le (rkI x); omega)).mp hk
  have h2 : anc (rkI x) k < 341 := Nat.lt_of_le_of_lt (anc_le _ _) h.2
  exact nI_nle (Nat.pos_of_ne_zero (pt_pos _ h2 h1)) (by have := pt_le _ h2; omega)
theorem dig_s {x : Int32} (h : IsP x) (k : Nat) : nI (pth (anc (rkI x) k)) / 10 = nI (pth (anc (rkI x) (k + 1))) := by
  have h2 : anc (rkI x) k < 341 := Nat.lt_of_le_of_lt (anc_le _ _) h.2
  rw [show (10 : Int32) = nI 10 by decide, nI_divN (by have := pt_le _ h2; omega) (by decide), pt_div _ h2]; rfl

/-! what the reference's methods leave alone; the first relation between both sides: counts, mounts, quotas -/
section SB2
variable {lc mc bc a1 a2 a3 : Nat} {N G N1 G1 N' G' N2 G2 : Nat → Nat → Int32} {x y v k w b : Int32}
abbrev DT : Nat → Nat → Prop := fun k j => k = 200 ∧ (j = 11 ∨ j = 15)
abbrev DK : Nat → Nat → Prop := fun k _ => 201 ≤ k ∧ k ≤ 203
abbrev DU : Nat → Nat → Prop := fun k j => k = 200 ∧ (j = 14 ∨ j = 15)
abbrev DV : Nat → Nat → Prop := fun k _ => k = 213 ∨ k = 214
theorem rN_puts : Sm DT N (c_X4_puts_N lc mc bc N G x k w v) := P_if (fun _ => Sm.rf.gu (by omega)) (fun _ => P_if (fun _ => Sm.rf.gu (by omega)) (fun _ => Sm.rf.gu (by omega)))
theorem rG_puts : Sm DK G (c_X4_puts_G lc mc bc N G x k w v) := P_if (fun _ => ((Sm.rf.gu (by omega)).gu (by omega)).gu (by omega)) (fun _ => P_if (fun _ => ((Sm.rf.gu (by omega)).gu (by omega)).gu (by omega)) (fun _ => ((Sm.rf.gu (by omega)).gu (by omega)).gu (by omega)))
theorem rt {u : Int32} : Sm DT N (mt_gu N 200 15 u) := Sm.rf.gu (by omega)
theorem rN_write : Sm DT N (c_X4_write_N lc mc bc N G x y v) := P_if (fun _ => rt) (fun _ => P_if (fun _ => rt) (fun _ => P_if (fun _ => rt) (fun _ => P_if (fun _ => rt) (fun _ => P_if (fun _ => rt.tr rN_puts) (fun _ => rt)))))
theorem rG_write : Sm DK G (c_X4_write_G lc mc bc N G x y v) := P_if (fun _ => Sm.rf) (fun _ => P_if (fun _ => Sm.rf) (fun _ => P_if (fun _ => Sm.rf) (fun _ => P_if (fun _ => Sm.rf) (fun _ => P_if (fun _ => rG_puts) (fun _ => Sm.rf)))))
theorem rN_link : Sm DT N (c_X4_link_N lc mc bc N G x y v) := P_if (fun _ => rt) (fun _ => P_if (fun _ => rt) (fun _ => P_if (fun _ => rt) (fun _ => P_if (fun _ => rt) (fun _ => rt.tr rN_puts))))
theorem rG_link : Sm DK G (c_X4_link_G lc mc bc N G x y v) := P_if (fun _ => Sm.rf) (fun _ => P_if (fun _ => Sm.rf) (fun _ => P_if (fun _ => Sm.rf) (fun _ => P_if (fun _ => Sm.rf) (fun _ => rG_puts))))
theorem rN_remove : Sm DT N (c_X4_remove_N lc mc bc N G x) := P_if (fun _ => rt) (fun _ => P_if (fun _ => rt) (fun _ => P_if (fun _ => P_if (fun _ => rt) (fun _ => P_if (fun _ => rt) (fun _ => P_if (fun _ => rt) (fun _ => rt)))) (fun _ => P_if (fun _ => rt) (fun _ => P_if (fun _ => rt) (fun _ => P_if (fun _ => rt) (fun _ => rt))))))
theorem rg {u : Int32} {i : Nat} : Sm DK G (mt_gu G 201 i u) := Sm.rf.gu (by omega)
theorem rG_remove : Sm DK G (c_X4_remove_G lc mc bc N G x) := P_if (fun _ => Sm.rf) (fun _ => P_if (fun _ => Sm.rf) (fun _ => P_if (fun _ => P_if (fun _ => rg) (fun _ => P_if (fun _ => rg) (fun _ => P_if (fun _ => rg) (fun _ => rg)))) (fun _ => P_if (fun _ => rg) (fun _ => P_if (fun _ => rg) (fun _ => P_if (fun _ => rg) (fun _ => rg))))))
theorem rN_backUp : Sm DU N (c_X4_backUp_N lc mc bc N G b) := P_if (fun _ => Sm.rf.gu (by omega)) (fun _ => (Sm.rf.gu (by omega)).gu (by omega))
theorem rG_bl (n : Nat) : Sm DV G (c_X4_backUp_lG lc mc bc N G b n) := fun a j h => bl_ne (fun q => h (Or.inl q))
theorem rG_backUp : Sm DV G (c_X4_backUp_G lc mc bc N G b) := P_if (fun _ => Sm.rf) (fun _ => (rG_bl 2046).gu (by omega))
def TO (N N1 : Nat → Nat → Int32) : Prop := ∃ u, N1 = mt_gu N 200 15 u
theorem to_if {c : Prop} [Decidable c] {A B : Nat → Nat → Int32} (h1 : TO N A) (h2 : TO N B) : TO N (if c then A else B) := by split <;> assumption
theorem to_t {u : Int32} : TO N (mt_gu N 200 15 u) := ⟨u, rfl⟩
theorem n9 (hM : MI N' G') (hm : mc = mqN N') : (N' 200 9 = 8 ↔ mc = 8) := by
  have h8 := hM.2.1
  rw [hM.2.2.2.2.1, ← hm, show (8 : Int32) = nI 8 from rfl]
  exact nI_eq (by omega) (by decide)
theorem not8 {n : Nat} (h : n ≤ 8) (h2 : ¬ n = 8) : nI n < (8 : Int32) := nI_lt (a := n) (b := 8) (by omega) (by decide)
theorem is8 : ¬ nI 8 < (8 : Int32) := by decide
theorem neg_nI {j : Nat} (h : j < 2 ^ 31) : ¬ nI j = -1 := fun q => nI_pos h (by rw [q]; decide)
/-- 'mount' on both sides: it goes through on both, or on none -/
theorem s_mount (hM : MI N' G') (hl : lc = lqN N') (hm : mc = mqN N') (hR : RM mc N G') :
    (IsP x ∧ (∃ j, j < lc ∧ y = nI j) ∧ (v = -1 ∨ ∃ j, j < lc ∧ v = nI j) ∧ ¬ y = v ∧ mc < 8 ∧ c_X3_mount lc mc bc N G x y v = .inr (nI mc) ∧ c_X4_mount_N a1 a2 a3 N' G' x y v = mt_gu (mt_gu N' 200 15 0) 200 9 (N' 200 9 + 1) ∧ c_X4_mount_G a1 a2 a3 N' G' x y v = mt_gu (mt_gu (mt_gu (mt_gu (mt_gu G' 205 (N' 200 9).toNatClampNeg x) 206 (N' 200 9).toNatClampNeg y) 207 (N' 200 9).toNatClampNeg v) 208 (N' 200 9).toNatClampNeg 1) 209 (N' 200 9).toNatClampNeg 0)
    ∨ ((∃ E, c_X3_mount lc mc bc N G x y v = .inl E) ∧ (∃ u, c_X4_mount_N a1 a2 a3 N' G' x y v = mt_gu N' 200 15 u) ∧ c_X4_mount_G a1 a2 a3 N' G' x y v = G') := by
  have h8 : mc ≤ 8 := by rw [hm]; exact hM.2.1
  have h6 : lc ≤ 6 := by rw [hl]; exact hM.1
  have hn9 := n9 hM hm
  have hpos : ¬ nI mc < 0 := nI_pos (by omega)
  have hup := up_eq (lc := lc) (bc := bc) (G := G) (a1 := a1) (a2 := a2) (a3 := a3) hm h8 hR y
  unfold c_X3_mount c_X4_mount_N c_X4_mount_G
  rcases pa x with ⟨p1, p2, p3, p4⟩ | ⟨p1, p3, p4⟩
  · have p4 : ¬ c_X4_isPath x = 0 := by rw [p4]; decide
    simp only [if_neg p3, if_neg p4]
    rcases lay (mc := mc) (bc := bc) (N := N) (G := G) (a1 := a1) (a2 := a2) (a3 := a3) hM hl y with ⟨j, hj, rfl, q1, q2⟩ | ⟨q1, q2⟩
    · have q2 : ¬ c_X4_isLayer a1 a2 a3 N' G' (nI j) = 0 := by rw [q2]; decide
      simp only [q1, ocase, if_neg q2]
      by_cases c1 : v = -1
      · have c2 : ¬ nI j = v := by rw [c1]; exact neg_nI (by omega)
        simp only [if_pos c1, if_neg c2]
        by_cases c3 : c_X4_isUpper a1 a2 a3 N' G' (nI j) = 0
        · simp only [if_pos c3, if_pos (hup.mpr c3), if_neg hpos]
          by_cases c4 : mc = 8
          · right; rw [if_pos (hn9.mpr c4), if_pos (hn9.mpr c4), if_neg (by rw [c4]; exact is8)]
            exact ⟨⟨_, rfl⟩, ⟨_, rfl⟩, by first | rfl | trivial⟩
          · left; rw [if_neg (fun q => c4 (hn9.mp q)), if_neg (fun q => c4 (hn9.mp q)), if_pos (not8 h8 c4)]
            exact ⟨p1, ⟨j, hj, rfl⟩, Or.inl c1, c2, by omega, rfl, rfl, rfl⟩
        · right; simp only [if_neg c3, if_neg (fun q => c3 (hup.mp q))]
          exact ⟨⟨_, rfl⟩, ⟨_, rfl⟩, by first | rfl | trivial⟩
      · simp only [if_neg c1]
        by_cases c2 : nI j = v
        · right; simp only [if_pos c2]; exact ⟨⟨_, rfl⟩, ⟨_, rfl⟩, by first | rfl | trivial⟩
        · simp only [if_neg c2]
          rcases lay (mc := mc) (bc := bc) (N := N) (G := G) (a1 := a1) (a2 := a2) (a3 := a3) hM hl v with ⟨i, hi, rfl, r1, r2⟩ | ⟨r1, r2⟩
          · have r2 : ¬ c_X4_isLayer a1 a2 a3 N' G' (nI i) = 0 := by rw [r2]; decide
            have hus := us_eq (lc := lc) (bc := bc) (G := G) (a1 := a1) (a2 := a2) (a3 := a3) hm h8 hR (nI i)
            simp only [r1, ocase, if_neg r2]
            by_cases c3 : c_X4_isUpper a1 a2 a3 N' G' (nI j) = 0
            · simp only [if_pos c3, if_pos (hup.mpr c3)]
              by_cases c5 : c_X4_isUsed a1 a2 a3 N' G' (nI i) = 0
              · simp only [if_pos c5, if_pos (hus.mpr c5), if_neg hpos]
                by_cases c4 : mc = 8
                · right; rw [if_pos (hn9.mpr c4), if_pos (hn9.mpr c4), if_neg (by rw [c4]; exact is8)]
                  exact ⟨⟨_, rfl⟩, ⟨_, rfl⟩, by first | rfl | trivial⟩
                · left; rw [if_neg (fun q => c4 (hn9.mp q)), if_neg (fun q => c4 (hn9.mp q)), if_pos (not8 h8 c4)]
                  exact ⟨p1, ⟨j, hj, rfl⟩, Or.inr ⟨i, hi, rfl⟩, c2, by omega, rfl, rfl, rfl⟩
              · right; simp only [if_neg c5, if_neg (fun q => c5 (hus.mp q))]
                exact ⟨⟨_, rfl⟩, ⟨_, rfl⟩, by first | rfl | trivial⟩
            · right; simp only [if_neg c3, if_neg (fun q => c3 (hup.mp q))]
              exact ⟨⟨_, rfl⟩, ⟨_, rfl⟩, by first | rfl | trivial⟩
          · right; simp only [r1, ocase, if_pos r2]
            exact ⟨⟨_, rfl⟩, ⟨_, rfl⟩, by first | rfl | trivial⟩
    · right
      simp only [q1, ocase, if_pos q2]
      by_cases c1 : v = -1
      · simp only [if_pos c1]
        by_cases c2 : y = v
        · simp only [if_pos c2]; exact ⟨⟨_, rfl⟩, ⟨_, rfl⟩, by first | rfl | trivial⟩
        · simp only [if_neg c2]; exact ⟨⟨_, rfl⟩, ⟨_, rfl⟩, by first | rfl | trivial⟩
      · simp only [if_neg c1]
        by_cases c2 : y = v
        · simp only [if_pos c2]; exact ⟨⟨_, rfl⟩, ⟨_, rfl⟩, by first | rfl | trivial⟩
        · simp only [if_neg c2]; exact ⟨⟨_, rfl⟩, ⟨_, rfl⟩, by first | rfl | trivial⟩
  · right
    simp only [if_pos p3, if_pos p4]
    by_cases c1 : v = -1
    · simp only [if_pos c1]; exact ⟨⟨_, rfl⟩, ⟨_, rfl⟩, by first | rfl | trivial⟩
    · simp only [if_neg c1]; exact ⟨⟨_, rfl⟩, ⟨_, rfl⟩, by first | rfl | trivial⟩
theorem RM.mount (h : RM mc N G') (hne : ¬ y = v) : RM (mc + 1) (mt_nm N mc x y v) (mt_gu (mt_gu (mt_gu (mt_gu (mt_gu G' 205 mc x) 206 mc y) 207 mc v) 208 mc 1) 209 mc 0) := fun i hi => by
  by_cases e : i = mc
  · subst e
    simp [mt_gu, mt_nm, hne]
  · obtain ⟨q1, q2, q3, q4, q5, q6⟩ := h i (by omega)
    have e2 : ¬ 150 + i = 150 + mc := by omega
    simp [mt_gu, mt_nm, e, q1, q2, q3, q4, q5, q6]
/-- the relation: counts, mounts, quotas -/
def RC (lc mc bc : Nat) (N' : Nat → Nat → Int32) : Prop := lc = lqN N' ∧ mc = mqN N' ∧ bc = bqN N'
theorem RC.congr (h : RC lc mc bc N) (e : ∀ j, j = 3 ∨ j = 9 ∨ j = 14 → N1 200 j = N 200 j) : RC lc mc bc N1 := by
  obtain ⟨h1, h2, h3⟩ := h
  refine ⟨?_, ?_, ?_⟩
  · unfold lqN; rw [e 3 (Or.inl rfl)]; exact h1
  · unfold mqN; rw [e 9 (Or.inr (Or.inl rfl))]; exact h2
  · unfold bqN; rw [e 14 (Or.inr (Or.inr rfl))]; exact h3
def R1 (lc mc bc : Nat) (N G N' G' : Nat → Nat → Int32) : Prop := RC lc mc bc N' ∧ RM mc N G' ∧ RQ G G'
theorem R1.keep (h : R1 lc mc bc N G N' G') (h1 : ∀ i j, i < mc → j < 5 → N1 (150 + i) j = N (150 + i) j) (h2 : ∀ j, G1 5 j = G 5 j) (h3 : ∀ j, j = 3 ∨ j = 9 ∨ j = 14 → N2 200 j = N' 200 j) (h4 : ∀ k j, 205 ≤ k → k < 212 → G2 k j = G' k j) : R1 lc mc bc N1 G1 N2 G2 :=
  ⟨h.1.congr h3, h.2.1.congr h1 (fun i k _ hk hk2 => h4 k i hk (by omega)), fun j hj => by rw [h2, h4 211 j (by decide) (by decide)]; exact h.2.2 j hj⟩
theorem R1.hi (h : R1 lc mc bc N G N' G') (hN : HiE N' N2) (hG : HiE G' G2) : R1 lc mc bc N G N2 G2 := h.keep (fun _ _ _ _ => rfl) (fun _ => rfl) (fun j _ => hN 200 j (by decide)) (fun k j hk _ => hG k j (by omega))
theorem R1.lo (h : R1 lc mc bc N G N' G') (h8 : mc ≤ 8) (hN : LoE N N1) (hG : LoE G G1) : R1 lc mc bc N1 G1 N' G' := h.keep (fun i j hi _ => hN _ _ (by omega)) (fun j => hG _ _ (by decide)) (fun _ _ => rfl) (fun _ _ _ _ => rfl)
theorem R1.t {u : Int32} (h : R1 lc mc bc N G N' G') : R1 lc mc bc N G (mt_gu N' 200 15 u) G' := h
end SB2

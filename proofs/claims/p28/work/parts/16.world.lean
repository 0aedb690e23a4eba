/-! the world of the class (ids below 200), of the reference (200 ..) and of the law's two answers (300, 301) -/
section MTW
def c_bn (v : Int32) : Nat := if v = 0 then 2046 else 341
theorem c_bn_lt (v : Int32) : c_bn v < 2 ^ 31 := by unfold c_bn; split <;> decide
abbrev mt_D : Type := (Nat → UInt64) × (Nat → Option va_E)
def mt_arr (g : mt_G) (lc bc : Nat) (N : Nat → Nat → Int32) (k : Nat) : Option (ClassId × Nat) :=
  if k < 100 then (if k = 4 ∨ k = 5 then some (g.2 0, 4) else if k = 6 ∨ k = 7 then some (g.2 0, 341) else none)
  else if k < 200 then
    (if 110 ≤ k ∧ k < 116 then (if k < 110 + lc then some (g.2 0, 341) else none)
     else if 120 ≤ k ∧ k < 126 then (if k < 120 + lc then some (g.2 0, 341) else none)
     else if 130 ≤ k ∧ k < 136 then (if k < 130 + lc then some (g.2 0, 341) else none)
     else if 140 ≤ k ∧ k < 146 then (if k < 140 + lc then some (g.2 1, 341) else none)
     else if 170 ≤ k ∧ k < 176 then (if k < 170 + bc then some (g.2 0, c_bn (N (k - 10) 0)) else none) else none)
  else if k < 300 then
    (if 201 ≤ k ∧ k < 204 then some (g.2 0, 2046) else if 205 ≤ k ∧ k < 208 then some (g.2 0, 8) else if 208 ≤ k ∧ k < 210 then some (g.2 1, 8)
     else if k = 211 then some (g.2 0, 4) else if k = 213 then some (g.2 0, 12276) else if k = 214 then some (g.2 1, 6) else none)
  else none
def mt_tb (ad : Nat → Nat) (lc mc bc : Nat) (n : Nat → Int32) : List Value := [.ref (ad 1), .ref (ad 2), .ref (ad 3), .ref (ad 4), .ref (ad 5), .ref (ad 6), .ref (ad 7), .int (nI lc), .int (nI mc), .int (nI bc), .int (n 10)]
def mt_mo (ad : Nat → Nat) (n : Nat → Int32) : List Value := [.ref (ad 201), .ref (ad 202), .ref (ad 203), .int (n 3), .ref (ad 205), .ref (ad 206), .ref (ad 207), .ref (ad 208), .ref (ad 209), .int (n 9), .ref (ad 211), .int (n 11), .ref (ad 213), .ref (ad 214), .int (n 14), .int (n 15)]
def mt_mn (n : Nat → Int32) : List Value := [.int (n 0), .int (n 1), .int (n 2), .int (n 3), .int (n 4)]
def mt_rr (ad : Nat → Nat) (b c : Nat) : Nat → Option Nat := fun i => if i < c then some (ad (b + i)) else none
def mt_obj (g : mt_G) (ad : Nat → Nat) (lc mc bc : Nat) (N : Nat → Nat → Int32) (o : Nat → Int64) (d : mt_D) (k : Nat) : Option va_E :=
  if k < 100 then
    (if k = 0 then some (.inr (5, mt_tb ad lc mc bc (N 0)))
     else if k = 1 then some (.inl (g.2 2, 6, .inr (.inr (.inr (.inr (mt_rr ad 100 lc))))))
     else if k = 2 then some (.inl (g.2 3, 8, .inr (.inr (.inr (.inr (mt_rr ad 150 mc))))))
     else if k = 3 then some (.inl (g.2 4, 6, .inr (.inr (.inr (.inr (mt_rr ad 160 bc)))))) else none)
  else if k < 200 then
    (if k < 106 then (if k < 100 + lc then some (.inr (3, [.ref (ad (k + 10)), .ref (ad (k + 20)), .ref (ad (k + 30)), .ref (ad (k + 40))])) else none)
     else if 150 ≤ k ∧ k < 158 then (if k < 150 + mc then some (.inr (4, mt_mn (N k))) else none)
     else if 160 ≤ k ∧ k < 166 then (if k < 160 + bc then some (.inr (2, [.int (N k 0), .ref (ad (k + 10))])) else none) else none)
  else if k = 200 then some (.inr (6, mt_mo ad (N 200)))
  else if k = 300 then some (.inl (g.2 5, 1, .inr (.inl o)))
  else if k = 301 then some (.inl (g.2 6, 1, .inr (.inr (.inr (.inl d.1))))) else if k < 302 then none else d.2 k
def mt_wc (g : mt_G) (ad : Nat → Nat) (lc mc bc : Nat) (N G : Nat → Nat → Int32) (o : Nat → Int64) (d : mt_D) : mt_w := fun k =>
  match mt_arr g lc bc N k with | some c => some (.inl (c.1, c.2, .inl (G k))) | none => mt_obj g ad lc mc bc N o d k
def mt_g1 (G : Nat → Nat → Int32) (k : Nat) (f : Nat → Int32) : Nat → Nat → Int32 := fun b => if b = k then f else G b
def mt_gu (G : Nat → Nat → Int32) (k i : Nat) (x : Int32) : Nat → Nat → Int32 := fun b j => if b = k ∧ j = i then x else G b j
theorem mt_g1u (G : Nat → Nat → Int32) (k i : Nat) (x : Int32) : mt_g1 G k (upd (G k) i x) = mt_gu G k i x := by
  funext b j
  unfold mt_g1 mt_gu upd
  by_cases h1 : b = k
  · subst h1
    by_cases h2 : j = i <;> simp [h2]
  · simp [h1]
variable {g : mt_G} {ad : Nat → Nat} {lc mc bc : Nat} {N G : Nat → Nat → Int32} {o : Nat → Int64} {d : mt_D}
theorem wc_arr {k : Nat} {c : ClassId × Nat} (h : mt_arr g lc bc N k = some c) : mt_wc g ad lc mc bc N G o d k = some (.inl (c.1, c.2, .inl (G k))) := by unfold mt_wc; rw [h]
theorem wc_ob {k : Nat} (h : mt_arr g lc bc N k = none) : mt_wc g ad lc mc bc N G o d k = mt_obj g ad lc mc bc N o d k := by unfold mt_wc; rw [h]
-- the arrays of numbers
theorem ar_4 : mt_arr g lc bc N 4 = some (g.2 0, 4) := rfl
theorem ar_5 : mt_arr g lc bc N 5 = some (g.2 0, 4) := rfl
theorem ar_6 : mt_arr g lc bc N 6 = some (g.2 0, 341) := rfl
theorem ar_7 : mt_arr g lc bc N 7 = some (g.2 0, 341) := rfl
theorem ar_201 : mt_arr g lc bc N 201 = some (g.2 0, 2046) := rfl
theorem ar_202 : mt_arr g lc bc N 202 = some (g.2 0, 2046) := rfl
theorem ar_203 : mt_arr g lc bc N 203 = some (g.2 0, 2046) := rfl
theorem ar_205 : mt_arr g lc bc N 205 = some (g.2 0, 8) := rfl
theorem ar_206 : mt_arr g lc bc N 206 = some (g.2 0, 8) := rfl
theorem ar_207 : mt_arr g lc bc N 207 = some (g.2 0, 8) := rfl
theorem ar_208 : mt_arr g lc bc N 208 = some (g.2 1, 8) := rfl
theorem ar_209 : mt_arr g lc bc N 209 = some (g.2 1, 8) := rfl
theorem ar_211 : mt_arr g lc bc N 211 = some (g.2 0, 4) := rfl
theorem ar_213 : mt_arr g lc bc N 213 = some (g.2 0, 12276) := rfl
theorem ar_214 : mt_arr g lc bc N 214 = some (g.2 1, 6) := rfl
theorem ar_k {i : Nat} (h6 : lc ≤ 6) (hi : i < lc) : mt_arr g lc bc N (110 + i) = some (g.2 0, 341) := by
  unfold mt_arr; rw [if_neg (by omega), if_pos (by omega), if_pos (by omega), if_pos (by omega)]
theorem ar_o {i : Nat} (h6 : lc ≤ 6) (hi : i < lc) : mt_arr g lc bc N (120 + i) = some (g.2 0, 341) := by
  unfold mt_arr; rw [if_neg (by omega), if_pos (by omega), if_neg (by omega), if_pos (by omega), if_pos (by omega)]
theorem ar_v {i : Nat} (h6 : lc ≤ 6) (hi : i < lc) : mt_arr g lc bc N (130 + i) = some (g.2 0, 341) := by
  unfold mt_arr; rw [if_neg (by omega), if_pos (by omega), if_neg (by omega), if_neg (by omega), if_pos (by omega), if_pos (by omega)]
theorem ar_c {i : Nat} (h6 : lc ≤ 6) (hi : i < lc) : mt_arr g lc bc N (140 + i) = some (g.2 1, 341) := by
  unfold mt_arr; rw [if_neg (by omega), if_pos (by omega), if_neg (by omega), if_neg (by omega), if_neg (by omega), if_pos (by omega), if_pos (by omega)]
theorem ar_b {i : Nat} (h6 : bc ≤ 6) (hi : i < bc) : mt_arr g lc bc N (170 + i) = some (g.2 0, c_bn (N (160 + i) 0)) := by
  unfold mt_arr; rw [if_neg (by omega), if_pos (by omega), if_neg (by omega), if_neg (by omega), if_neg (by omega), if_neg (by omega), if_pos (by omega), if_pos (by omega), show 170 + i - 10 = 160 + i by omega]
-- the objects and the rows of references
theorem wc_0 : mt_wc g ad lc mc bc N G o d 0 = some (.inr (5, mt_tb ad lc mc bc (N 0))) := rfl
theorem wc_1 : mt_wc g ad lc mc bc N G o d 1 = some (.inl (g.2 2, 6, .inr (.inr (.inr (.inr (mt_rr ad 100 lc)))))) := rfl
theorem wc_2 : mt_wc g ad lc mc bc N G o d 2 = some (.inl (g.2 3, 8, .inr (.inr (.inr (.inr (mt_rr ad 150 mc)))))) := rfl
theorem wc_3 : mt_wc g ad lc mc bc N G o d 3 = some (.inl (g.2 4, 6, .inr (.inr (.inr (.inr (mt_rr ad 160 bc)))))) := rfl
theorem wc_200 : mt_wc g ad lc mc bc N G o d 200 = some (.inr (6, mt_mo ad (N 200))) := rfl
theorem wc_300 : mt_wc g ad lc mc bc N G o d 300 = some (.inl (g.2 5, 1, .inr (.inl o))) := rfl
theorem wc_301 : mt_wc g ad lc mc bc N G o d 301 = some (.inl (g.2 6, 1, .inr (.inr (.inr (.inl d.1))))) := rfl
theorem wc_lay {i : Nat} (h6 : lc ≤ 6) (hi : i < lc) : mt_wc g ad lc mc bc N G o d (100 + i) = some (.inr (3, [.ref (ad (110 + i)), .ref (ad (120 + i)), .ref (ad (130 + i)), .ref (ad (140 + i))])) := by
  rw [wc_ob (by unfold mt_arr; rw [if_neg (by omega), if_pos (by omega), if_neg (by omega), if_neg (by omega), if_neg (by omega), if_neg (by omega), if_neg (by omega)])]
  unfold mt_obj
  rw [if_neg (by omega), if_pos (by omega), if_pos (by omega), if_pos (by omega), show 100 + i + 10 = 110 + i by omega, show 100 + i + 20 = 120 + i by omega, show 100 + i + 30 = 130 + i by omega, show 100 + i + 40 = 140 + i by omega]
theorem wc_mnt {i : Nat} (h8 : mc ≤ 8) (hi : i < mc) : mt_wc g ad lc mc bc N G o d (150 + i) = some (.inr (4, mt_mn (N (150 + i)))) := by
  rw [wc_ob (by unfold mt_arr; rw [if_neg (by omega), if_pos (by omega), if_neg (by omega), if_neg (by omega), if_neg (by omega), if_neg (by omega), if_neg (by omega)])]
  unfold mt_obj
  rw [if_neg (by omega), if_pos (by omega), if_neg (by omega), if_pos (by omega), if_pos (by omega)]
theorem wc_bak {i : Nat} (h6 : bc ≤ 6) (hi : i < bc) : mt_wc g ad lc mc bc N G o d (160 + i) = some (.inr (2, [.int (N (160 + i) 0), .ref (ad (170 + i))])) := by
  rw [wc_ob (by unfold mt_arr; rw [if_neg (by omega), if_pos (by omega), if_neg (by omega), if_neg (by omega), if_neg (by omega), if_neg (by omega), if_neg (by omega)])]
  unfold mt_obj
  rw [if_neg (by omega), if_pos (by omega), if_neg (by omega), if_neg (by omega), if_pos (by omega), if_pos (by omega), show 160 + i + 10 = 170 + i by omega]
-- what a store makes of it
theorem wc_setG {k : Nat} {c : ClassId × Nat} (h : mt_arr g lc bc N k = some c) (f : Nat → Int32) : mt_up (mt_wc g ad lc mc bc N G o d) k (.inl (c.1, c.2, .inl f)) = mt_wc g ad lc mc bc N (mt_g1 G k f) o d := by
  funext b
  unfold mt_up mt_wc mt_g1
  by_cases hb : b = k
  · subst hb; rw [if_pos rfl, h]; simp
  · rw [if_neg hb]; simp only [if_neg hb]
theorem wc_setg {k i : Nat} {x : Int32} {c : ClassId × Nat} (h : mt_arr g lc bc N k = some c) : mt_up (mt_wc g ad lc mc bc N G o d) k (.inl (c.1, c.2, .inl (upd (G k) i x))) = mt_wc g ad lc mc bc N (mt_gu G k i x) o d := by rw [wc_setG h, mt_g1u]
theorem ar_N {k : Nat} {f : Nat → Int32} (hk : k < 160 ∨ 166 ≤ k) : mt_arr g lc bc (mt_g1 N k f) = mt_arr g lc bc N := by
  funext b
  unfold mt_arr mt_g1
  by_cases h1 : 170 ≤ b ∧ b < 176
  · have h2 : ¬ b - 10 = k := by omega
    simp only [if_neg h2]
  · by_cases h3 : b < 100
    · simp only [if_pos h3]
    · by_cases h4 : b < 200
      · simp only [if_neg h3, if_pos h4, if_neg h1]
      · simp only [if_neg h3, if_neg h4]
theorem wc_setN {k ci : Nat} {f : Nat → Int32} {L : List Value} (hk : k < 160 ∨ 166 ≤ k) (h0 : mt_wc g ad lc mc bc (mt_g1 N k f) G o d k = some (.inr (ci, L))) (h1 : mt_arr g lc bc N k = none) : mt_up (mt_wc g ad lc mc bc N G o d) k (.inr (ci, L)) = mt_wc g ad lc mc bc (mt_g1 N k f) G o d := by
  funext b
  by_cases hb : b = k
  · subst hb; rw [h0]; unfold mt_up; rw [if_pos rfl]
  · unfold mt_up mt_wc
    rw [if_neg hb, ar_N hk]
    have e1 : mt_g1 N k f b = N b := by unfold mt_g1; rw [if_neg hb]
    have e2 : mt_obj g ad lc mc bc (mt_g1 N k f) o d b = mt_obj g ad lc mc bc N o d b := by
      by_cases q1 : b = 0
      · subst q1
        show some (Sum.inr (5, mt_tb ad lc mc bc (mt_g1 N k f 0))) = some (Sum.inr (5, mt_tb ad lc mc bc (N 0)))
        rw [e1]
      · by_cases q2 : b = 200
        · subst q2
          show some (Sum.inr (6, mt_mo ad (mt_g1 N k f 200))) = some (Sum.inr (6, mt_mo ad (N 200)))
          rw [e1]
        · unfold mt_obj
          rw [e1]
          simp only [if_neg q1, if_neg q2]
    rw [e2]
theorem wc_setc {x : Int32} : mt_up (mt_wc g ad lc mc bc N G o d) 0 (.inr (5, (mt_tb ad lc mc bc (N 0)).set 10 (.int x))) = mt_wc g ad lc mc bc (mt_gu N 0 10 x) G o d := by
  rw [← mt_g1u]
  exact wc_setN (k := 0) (Or.inl (by decide)) rfl rfl
theorem wc_setm {i j : Nat} {x : Int32} (h8 : mc ≤ 8) (hi : i < mc) (hj : j < 5) : mt_up (mt_wc g ad lc mc bc N G o d) (150 + i) (.inr (4, (mt_mn (N (150 + i))).set j (.int x))) = mt_wc g ad lc mc bc (mt_gu N (150 + i) j x) G o d := by
  rw [← mt_g1u]
  refine wc_setN (k := 150 + i) (Or.inl (by omega)) ?_ (by unfold mt_arr; rw [if_neg (by omega), if_pos (by omega), if_neg (by omega), if_neg (by omega), if_neg (by omega), if_neg (by omega), if_neg (by omega)])
  rw [wc_mnt h8 hi]
  unfold mt_g1
  rw [if_pos rfl]
  match j, hj with
  | 0, _ => rfl
  | 1, _ => rfl
  | 2, _ => rfl
  | 3, _ => rfl
  | 4, _ => rfl
theorem wc_sett {j : Nat} {x : Int32} (hj : j = 3 ∨ j = 9 ∨ j = 11 ∨ j = 14 ∨ j = 15) : mt_up (mt_wc g ad lc mc bc N G o d) 200 (.inr (6, (mt_mo ad (N 200)).set j (.int x))) = mt_wc g ad lc mc bc (mt_gu N 200 j x) G o d := by
  rw [← mt_g1u]
  refine wc_setN (k := 200) (Or.inr (by decide)) ?_ rfl
  rcases hj with rfl | rfl | rfl | rfl | rfl <;> rfl
theorem wc_seto {x : Int64} : mt_up (mt_wc g ad lc mc bc N G o d) 300 (.inl (g.2 5, 1, .inr (.inl (vp_updL o 0 x)))) = mt_wc g ad lc mc bc N G (vp_updL o 0 x) d := by
  funext b
  unfold mt_up
  by_cases hb : b = 300
  · subst hb; rfl
  · rw [if_neg hb]
    unfold mt_wc mt_obj
    simp only [if_neg hb]
theorem wc_setd {x : UInt64} : mt_up (mt_wc g ad lc mc bc N G o d) 301 (.inl (g.2 6, 1, .inr (.inr (.inr (.inl (va_up d.1 0 x)))))) = mt_wc g ad lc mc bc N G o (va_up d.1 0 x, d.2) := by
  funext b
  unfold mt_up
  by_cases hb : b = 301
  · subst hb; rfl
  · rw [if_neg hb]
    unfold mt_wc mt_obj
    simp only [if_neg hb]
theorem mt_W.to {z : Nat} {w w1 : mt_w} {ad ad1 : Nat → Nat} {H : Heap} (h : mt_W g z w ad H) (e : w = w1) (e2 : ad = ad1 := by rfl) : mt_W g z w1 ad1 H := by subst e; subst e2; exact h
end MTW

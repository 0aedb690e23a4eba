/-! which mount serves a place: the class's rows against the reference's search -/
section SD
variable {lc mc bc a1 a2 a3 : Nat} {N G N1 G1 N' G' N2 G2 : Nat → Nat → Int32} {x y v k w b : Int32}
theorem pl_in {q : Nat} (h : q < 2 ^ 31) : (c_X3_isPlace (nI q) = 0 ↔ ¬ q < 341) := by
  unfold c_X3_isPlace
  rw [if_neg (nI_pos h)]
  by_cases c : (341 : Int32) ≤ nI q
  · rw [if_pos c]
    refine ⟨fun _ q2 => nI_ge (a := q) (b := 341) q2 (by decide) c, fun _ => rfl⟩
  · rw [if_neg c]
    refine ⟨fun q2 => absurd q2 one_ne, fun q2 => absurd (nI_le (a := 341) (b := q) (by omega) h) c⟩
/-- one loop of serveBehind -/
def gl (w f : Nat) (x v : Int32) (G : Nat → Nat → Int32) : Nat → Nat → Nat → Int32
  | 0 => G
  | k + 1 => if c_X3_isPlace (x * nI w + nI (f + k)) = 0 then gl w f x v G k else mt_gu (mt_gu (gl w f x v G k) 6 (x * nI w + nI (f + k)).toNatClampNeg v) 7 (x * nI w + nI (f + k)).toNatClampNeg (nI (f + k))
theorem gl_0 (n : Nat) : c_X3_serveBehind_l0G lc mc bc N G x v n = gl 1 0 x v G n := by
  induction n with
  | zero => rfl
  | succ n ih => rw [c_X3_serveBehind_l0G, gl, ih]; rfl
theorem gl_1 (n : Nat) : c_X3_serveBehind_l1G lc mc bc N G x v n = gl 4 1 x v G n := by
  induction n with
  | zero => rfl
  | succ n ih => rw [c_X3_serveBehind_l1G, gl, ih]; rfl
theorem gl_2 (n : Nat) : c_X3_serveBehind_l2G lc mc bc N G x v n = gl 16 5 x v G n := by
  induction n with
  | zero => rfl
  | succ n ih => rw [c_X3_serveBehind_l2G, gl, ih]; rfl
theorem gl_3 (n : Nat) : c_X3_serveBehind_l3G lc mc bc N G x v n = gl 64 21 x v G n := by
  induction n with
  | zero => rfl
  | succ n ih => rw [c_X3_serveBehind_l3G, gl, ih]; rfl
theorem gl_4 (n : Nat) : c_X3_serveBehind_l4G lc mc bc N G x v n = gl 256 85 x v G n := by
  induction n with
  | zero => rfl
  | succ n ih => rw [c_X3_serveBehind_l4G, gl, ih]; rfl
theorem gl_at {P w f n r : Nat} (hP : P < 341) (hw : w ≤ 256) (hf : f ≤ 85) (hn : n ≤ 256) (hr : r < 341) :
    gl w f (nI P) v G n 6 r = (if P * w + f ≤ r ∧ r < P * w + f + n then v else G 6 r) ∧ gl w f (nI P) v G n 7 r = (if P * w + f ≤ r ∧ r < P * w + f + n then nI (r - P * w) else G 7 r) := by
  have hPw : P * w ≤ 341 * 256 := Nat.mul_le_mul (by omega) hw
  induction n with
  | zero => rw [if_neg (by omega), if_neg (by omega)]; exact ⟨rfl, rfl⟩
  | succ n ih =>
    obtain ⟨i1, i2⟩ := ih (by omega)
    have e : nI P * nI w + nI (f + n) = nI (P * w + (f + n)) := by rw [nI_mulN, nI_add]
    rw [gl, e]
    by_cases c : c_X3_isPlace (nI (P * w + (f + n))) = 0
    · have c2 := (pl_in (by omega)).mp c
      rw [if_pos c, i1, i2]
      constructor
      · by_cases d : P * w + f ≤ r ∧ r < P * w + f + n
        · rw [if_pos d, if_pos (by omega)]
        · rw [if_neg d, if_neg (by omega)]
      · by_cases d : P * w + f ≤ r ∧ r < P * w + f + n
        · rw [if_pos d, if_pos (by omega)]
        · rw [if_neg d, if_neg (by omega)]
    · have c2 : P * w + (f + n) < 341 := by
        rcases Nat.lt_or_ge (P * w + (f + n)) 341 with q | q
        · exact q
        · exact absurd ((pl_in (by omega)).mpr (by omega)) c
      rw [if_neg c, nI_clamp (by omega)]
      by_cases e2 : r = P * w + (f + n)
      · rw [if_pos (by omega), if_pos (by omega), gu_n (by decide), gu_s, gu_s, if_pos e2, if_pos e2]
        exact ⟨rfl, by rw [e2]; congr 1; omega⟩
      · rw [gu_n (by decide), gu_s, gu_s, if_neg e2, if_neg e2, gu_n (by decide), i1, i2]
        constructor
        · by_cases d : P * w + f ≤ r ∧ r < P * w + f + n
          · rw [if_pos d, if_pos (by omega)]
          · rw [if_neg d, if_neg (by omega)]
        · by_cases d : P * w + f ≤ r ∧ r < P * w + f + n
          · rw [if_pos d, if_pos (by omega)]
          · rw [if_neg d, if_neg (by omega)]
/-- the places behind a place -/
abbrev sbt (P r w f : Nat) : Prop := P * w + f ≤ r ∧ r < P * w + f + w
def sb (P r : Nat) : Prop := sbt P r 256 85 ∨ sbt P r 64 21 ∨ sbt P r 16 5 ∨ sbt P r 4 1 ∨ sbt P r 1 0
def rv (P r : Nat) : Nat := if sbt P r 256 85 then r - P * 256 else if sbt P r 64 21 then r - P * 64 else if sbt P r 16 5 then r - P * 16 else if sbt P r 4 1 then r - P * 4 else r - P * 1
theorem sB_at {P r : Nat} (hP : P < 341) (hr : r < 341) :
    (sb P r → c_X3_serveBehind_G lc mc bc N G (nI P) v 6 r = v ∧ c_X3_serveBehind_G lc mc bc N G (nI P) v 7 r = nI (rv P r)) ∧ (¬ sb P r → c_X3_serveBehind_G lc mc bc N G (nI P) v 6 r = G 6 r ∧ c_X3_serveBehind_G lc mc bc N G (nI P) v 7 r = G 7 r) := by
  unfold c_X3_serveBehind_G sb rv
  rw [gl_4, gl_3, gl_2, gl_1, gl_0]
  have h4 := gl_at (v := v) (G := gl 64 21 (nI P) v (gl 16 5 (nI P) v (gl 4 1 (nI P) v (gl 1 0 (nI P) v G 1) 4) 16) 64) (w := 256) (f := 85) (n := 256) hP (by decide) (by decide) (by decide) hr
  have h3 := gl_at (v := v) (G := gl 16 5 (nI P) v (gl 4 1 (nI P) v (gl 1 0 (nI P) v G 1) 4) 16) (w := 64) (f := 21) (n := 64) hP (by decide) (by decide) (by decide) hr
  have h2 := gl_at (v := v) (G := gl 4 1 (nI P) v (gl 1 0 (nI P) v G 1) 4) (w := 16) (f := 5) (n := 16) hP (by decide) (by decide) (by decide) hr
  have h1 := gl_at (v := v) (G := gl 1 0 (nI P) v G 1) (w := 4) (f := 1) (n := 4) hP (by decide) (by decide) (by decide) hr
  have h0 := gl_at (v := v) (G := G) (w := 1) (f := 0) (n := 1) hP (by decide) (by decide) (by decide) hr
  rw [h4.1, h4.2, h3.1, h3.2, h2.1, h2.2, h1.1, h1.2, h0.1, h0.2]
  by_cases c4 : sbt P r 256 85
  · simp only [if_pos c4]; exact ⟨fun _ => ⟨trivial, trivial⟩, fun q => absurd (Or.inl c4) q⟩
  · simp only [if_neg c4]
    by_cases c3 : sbt P r 64 21
    · simp only [if_pos c3]; exact ⟨fun _ => ⟨trivial, trivial⟩, fun q => absurd (Or.inr (Or.inl c3)) q⟩
    · simp only [if_neg c3]
      by_cases c2 : sbt P r 16 5
      · simp only [if_pos c2]; exact ⟨fun _ => ⟨trivial, trivial⟩, fun q => absurd (Or.inr (Or.inr (Or.inl c2))) q⟩
      · simp only [if_neg c2]
        by_cases c1 : sbt P r 4 1
        · simp only [if_pos c1]; exact ⟨fun _ => ⟨trivial, trivial⟩, fun q => absurd (Or.inr (Or.inr (Or.inr (Or.inl c1)))) q⟩
        · simp only [if_neg c1]
          by_cases c0 : sbt P r 1 0
          · simp only [if_pos c0]; exact ⟨fun _ => ⟨trivial, trivial⟩, fun q => absurd (Or.inr (Or.inr (Or.inr (Or.inr c0)))) q⟩
          · simp only [if_neg c0]
            refine ⟨fun q => ?_, fun _ => ⟨trivial, trivial⟩⟩
            rcases q with q | q | q | q | q
            · exact absurd q c4
            · exact absurd q c3
            · exact absurd q c2
            · exact absurd q c1
            · exact absurd q c0
-- .. and in the reference's words
theorem an_d : ∀ r, r < 341 → ∀ t, t < 5 → Fn t ≤ r → t ≤ dn r ∧ anc r t = (r - Fn t) / 4 ^ t ∧ dn (anc r t) = dn r - t := by decide +kernel
theorem dn_F : ∀ r, r < 341 → ∀ t, t < 5 → t ≤ dn r → Fn t ≤ r := by decide +kernel
theorem bg_conv {r P : Nat} (hr : r < 341) (hP : P < 341) (h2 : dn P ≤ dn r) (h3 : anc r (dn r - dn P) = P) : c_X4_begins (nI (pth r)) (nI (pth P)) = 1 := by
  have hlx := dn_le r
  unfold c_X4_begins c_X4_digits
  rw [(isP_pth hr).2, (isP_pth hP).2]
  have key : ∀ a, a < 5 → ∀ b, b < 5 → b ≤ a → ¬ nI a - nI b < 0 := by decide +kernel
  rw [if_neg (key _ (by omega) _ (by omega) h2), nI_subN h2]
  unfold c_X4_power
  rw [nI_clamp (by omega), pw10_N _ (by omega)]
  have hp : 10 ^ (dn r - dn P) < 2 ^ 31 := Nat.lt_of_le_of_lt (Nat.pow_le_pow_right (by decide) (show _ ≤ 4 by omega)) (by decide)
  rw [nI_divN (by have := pt_le _ hr; omega) hp, (pt_cut _ hr _ (by omega) (show dn r - dn P ≤ dn r by omega)).2.1, h3, if_pos rfl]
theorem bg_b (x y : Int32) : c_X4_begins x y = 0 ∨ c_X4_begins x y = 1 := by
  unfold c_X4_begins
  split
  · exact Or.inl rfl
  · split
    · exact Or.inr rfl
    · exact Or.inl rfl
theorem sb_t {P r t : Nat} (hr : r < 341) (ht : t < 5) (h1 : P * 4 ^ t + Fn t ≤ r) (h2 : r < P * 4 ^ t + Fn t + 4 ^ t) : dn P ≤ dn r ∧ dn r - dn P = t ∧ anc r t = P := by
  have hF : Fn t ≤ r := by omega
  obtain ⟨q1, q2, q3⟩ := an_d r hr t ht hF
  have e : (r - Fn t) / 4 ^ t = P := by
    have hpos : 0 < 4 ^ t := Nat.pow_pos (by decide)
    refine (Nat.div_eq_iff hpos).mpr ⟨?_, ?_⟩ <;> omega
  rw [e] at q2
  rw [q2] at q3
  exact ⟨by omega, by omega, q2⟩
theorem sb_iff {r P : Nat} (hr : r < 341) (hP : P < 341) : (sb P r ↔ ¬ c_X4_begins (nI (pth r)) (nI (pth P)) = 0) := by
  constructor
  · intro h
    have key : ∀ t, t < 5 → P * 4 ^ t + Fn t ≤ r ∧ r < P * 4 ^ t + Fn t + 4 ^ t → ¬ c_X4_begins (nI (pth r)) (nI (pth P)) = 0 := by
      intro t ht h9
      obtain ⟨q1, q2, q3⟩ := sb_t hr ht h9.1 h9.2
      rw [bg_conv hr hP q1 (by rw [q2]; exact q3)]; decide
    rcases h with h | h | h | h | h
    · exact key 4 (by decide) h
    · exact key 3 (by decide) h
    · exact key 2 (by decide) h
    · exact key 1 (by decide) h
    · exact key 0 (by decide) h
  · intro h
    obtain ⟨h1, h2⟩ := bg_eq (isP_pth hr).1 (isP_pth hP).1 h
    rw [(isP_pth hr).2, (isP_pth hP).2] at h1 h2
    have hlx := dn_le r
    obtain ⟨t, et⟩ : ∃ t, t = dn r - dn P := ⟨_, rfl⟩
    rw [← et] at h2
    have hF := dn_F r hr t (by omega) (by omega)
    obtain ⟨-, q2, -⟩ := an_d r hr t (by omega) hF
    rw [h2] at q2
    unfold sb
    rcases (show t = 0 ∨ t = 1 ∨ t = 2 ∨ t = 3 ∨ t = 4 by omega) with rfl | rfl | rfl | rfl | rfl
    · right; right; right; right
      have e : P = (r - 0) / 1 := q2
      exact ⟨by omega, by omega⟩
    · right; right; right; left
      have e : P = (r - 1) / 4 := q2
      have hF : 1 ≤ r := hF
      exact ⟨by omega, by omega⟩
    · right; right; left
      have e : P = (r - 5) / 16 := q2
      have hF : 5 ≤ r := hF
      exact ⟨by omega, by omega⟩
    · right; left
      have e : P = (r - 21) / 64 := q2
      have hF : 21 ≤ r := hF
      exact ⟨by omega, by omega⟩
    · left
      have e : P = (r - 85) / 256 := q2
      have hF : 85 ≤ r := hF
      exact ⟨by omega, by omega⟩
theorem rv_rs {r P : Nat} (hr : r < 341) (h : sb P r) : rv P r = rsN r P := by
  have key : ∀ t, t < 5 → P * 4 ^ t + Fn t ≤ r ∧ r < P * 4 ^ t + Fn t + 4 ^ t → r - P * 4 ^ t = rsN r P := by
    intro t ht h9
    obtain ⟨q1, q2, q3⟩ := sb_t hr ht h9.1 h9.2
    unfold rsN
    rw [q2, Nat.mul_comm]
  unfold rv
  by_cases c4 : sbt P r 256 85
  · rw [if_pos c4]; exact key 4 (by decide) c4
  rw [if_neg c4]
  by_cases c3 : sbt P r 64 21
  · rw [if_pos c3]; exact key 3 (by decide) c3
  rw [if_neg c3]
  by_cases c2 : sbt P r 16 5
  · rw [if_pos c2]; exact key 2 (by decide) c2
  rw [if_neg c2]
  by_cases c1 : sbt P r 4 1
  · rw [if_pos c1]; exact key 1 (by decide) c1
  rw [if_neg c1]
  rcases h with h | h | h | h | h
  · exact absurd h c4
  · exact absurd h c3
  · exact absurd h c2
  · exact absurd h c1
  · exact key 0 (by decide) h
/-- the rows of the class say what the reference's search says -/
def svr (G' : Nat → Nat → Int32) (n r : Nat) : Int32 := c_X4_servedBy_ls G' (nI (pth r)) n
def svq (G' : Nat → Nat → Int32) (n r : Nat) : Int32 := if svr G' n r = -1 then 0 else nI (rsN r (rkI (G' 205 (svr G' n r).toNatClampNeg)))
def RV (mc : Nat) (G G' : Nat → Nat → Int32) : Prop := ∀ r, r < 341 → G 6 r = svr G' mc r ∧ G 7 r = svq G' mc r
theorem sv_congr {n : Nat} (h : ∀ k, k < n → G2 208 k = G' 208 k ∧ G2 205 k = G' 205 k) : c_X4_servedBy_ls G2 x n = c_X4_servedBy_ls G' x n := by
  induction n with
  | zero => rfl
  | succ n ih =>
    rw [c_X4_servedBy_ls, c_X4_servedBy_ls, ih (fun k hk => h k (by omega)), (h n (by omega)).1, (h n (by omega)).2]
theorem svr_lt {n r : Nat} (h : ¬ svr G' n r = -1) : ∃ j, j < n ∧ svr G' n r = nI j := by
  rcases sb_of G' (nI (pth r)) n with q | ⟨j, q1, q2, -, -⟩
  · exact absurd q h
  · exact ⟨j, q1, q2⟩
theorem RV.congr {n : Nat} (h8 : n ≤ 8) (h : RV n G G') (h1 : ∀ j, G1 6 j = G 6 j) (h3 : ∀ j, G1 7 j = G 7 j) (h2 : ∀ k, k < n → G2 208 k = G' 208 k ∧ G2 205 k = G' 205 k) : RV n G1 G2 := fun r hr => by
  obtain ⟨q1, q2⟩ := h r hr
  have e : svr G2 n r = svr G' n r := sv_congr h2
  refine ⟨by rw [h1, q1, e], ?_⟩
  rw [h3, q2]
  unfold svq
  rw [e]
  by_cases c : svr G' n r = -1
  · rw [if_pos c, if_pos c]
  · rw [if_neg c, if_neg c]
    obtain ⟨j, hj, ej⟩ := svr_lt c
    rw [ej, nI_clamp (by omega), (h2 j hj).2]
theorem sva_at {n r : Nat} (hr : r < n) : c_X3_serveAgain_aG lc mc bc N G n 6 r = -1 ∧ c_X3_serveAgain_aG lc mc bc N G n 7 r = 0 := by
  induction n with
  | zero => omega
  | succ n ih =>
    rw [c_X3_serveAgain_aG, gu_n (by decide), gu_s, gu_s]
    by_cases e : r = n
    · rw [if_pos e, if_pos e]; exact ⟨rfl, rfl⟩
    · rw [if_neg e, if_neg e, gu_n (by decide)]; exact ih (by omega)
/-- settled anew, they say it -/
theorem sv_ok (h8 : mc ≤ 8) (hP : ∀ k, k < mc → IsP (G' 205 k)) (hR : RM mc N G') : RV mc (c_X3_serveAgain_G lc mc bc N G) G' := by
  have key : ∀ n, n ≤ mc → ∀ r, r < 341 → c_X3_serveAgain_bG lc mc bc N (c_X3_serveAgain_aG lc mc bc N G 341) n 6 r = svr G' n r ∧ c_X3_serveAgain_bG lc mc bc N (c_X3_serveAgain_aG lc mc bc N G 341) n 7 r = svq G' n r := by
    intro n
    induction n with
    | zero =>
      intro _ r hr
      obtain ⟨q1, q2⟩ := sva_at (lc := lc) (mc := mc) (bc := bc) (N := N) (G := G) hr
      exact ⟨q1, q2⟩
    | succ n ih =>
      intro hn r hr
      obtain ⟨i1, i2⟩ := ih (by omega) r hr
      obtain ⟨m1, -, -, m4, -, -⟩ := hR n (by omega)
      have hp := hP n (by omega)
      have es : svr G' (n + 1) r = if G' 208 n = 0 then svr G' n r else if c_X4_begins (nI (pth r)) (G' 205 n) = 0 then svr G' n r else nI n := rfl
      rw [c_X3_serveAgain_bG, mth_k h8 (by omega)]
      unfold svq
      rw [es, m4]
      by_cases c : N (150 + n) 3 = 0
      · rw [if_pos c, if_pos c]; exact ⟨i1, i2⟩
      · rw [if_neg c, if_neg c]
        rw [ocase_s rfl]
        rw [← m1, pl_P hp]
        have hb := sB_at (lc := lc) (mc := mc) (bc := bc) (N := N) (G := c_X3_serveAgain_bG lc mc bc N (c_X3_serveAgain_aG lc mc bc N G 341) n) (v := nI n) hp.2 hr
        have hi := sb_iff hr hp.2
        rw [← hp.1] at hi
        by_cases d : c_X4_begins (nI (pth r)) (G' 205 n) = 0
        · obtain ⟨q1, q2⟩ := hb.2 (fun q => hi.mp q d)
          rw [q1, q2, if_pos d]; exact ⟨i1, i2⟩
        · obtain ⟨q1, q2⟩ := hb.1 (hi.mpr d)
          rw [q1, q2, if_neg d, if_neg (neg_nI (by omega)), nI_clamp (by omega), rv_rs hr (hi.mpr d)]
          exact ⟨rfl, rfl⟩
  exact fun r hr => key mc (Nat.le_refl _) r hr
end SD

/-! sizes by walking; the bytes that are shown -/
section SL
variable {lc mc bc a1 a2 a3 : Nat} {N G N1 G1 N' G' N2 G2 : Nat → Nat → Int32} {x y v k w b : Int32}
theorem pt_d : ∀ r, r < 341 → ∀ j, j < 5 → pth r / 10 ^ j = pth (anc r j) ∧ anc r j < 341 := by decide +kernel
theorem an_o : ∀ r, r < 341 → ∀ j, j < 5 → dn r ≤ j → anc r j = 0 := by decide +kernel
/-- a path and a point: the first cut that gives the point -/
theorem cutp {r P j : Nat} (hr : r < 341) (hP : P < 341) (hj : j < 5) : (nI (pth r) / nI (10 ^ j) = nI (pth P) ↔ anc r j = P) := by
  obtain ⟨e, hlt⟩ := pt_d r hr j hj
  have h1 := pt_le r hr
  have h2 := pt_le P hP
  have h3 := pt_le _ hlt
  have hp : 10 ^ j < 2 ^ 31 := Nat.lt_of_le_of_lt (Nat.pow_le_pow_right (by decide) (show j ≤ 4 by omega)) (by decide)
  rw [nI_divN (by omega) hp, e, nI_eq (by omega) (by omega)]
  exact ⟨fun q => pt_inj hlt hP q, fun q => by rw [q]⟩
theorem rB_e (x y : Int32) : c_X3_restBehind y x = if x / nI (10 ^ 0) = y then x - x / nI (10 ^ 0) * nI (10 ^ 0) else if x / nI (10 ^ 1) = y then x - x / nI (10 ^ 1) * nI (10 ^ 1) else if x / nI (10 ^ 2) = y then x - x / nI (10 ^ 2) * nI (10 ^ 2) else if x / nI (10 ^ 3) = y then x - x / nI (10 ^ 3) * nI (10 ^ 3) else if x / nI (10 ^ 4) = y then x - x / nI (10 ^ 4) * nI (10 ^ 4) else -1 := rfl
theorem rB_val {r t P : Nat} (hr : r < 341) (ht : t ≤ dn r) (h : anc r t = P) (hd : dn r - dn P = t) : nI (pth r) - nI (pth r) / nI (10 ^ t) * nI (10 ^ t) = nI (pth (rsN r P)) := by
  have hlx := dn_le r
  have hp : 10 ^ t < 2 ^ 31 := Nat.lt_of_le_of_lt (Nat.pow_le_pow_right (by decide) (show t ≤ 4 by omega)) (by decide)
  rw [nI_modN (by have := pt_le _ hr; omega) hp, (pt_cut _ hr _ (by omega) ht).1]
  unfold rsN
  rw [hd, h]
theorem rB {x y : Int32} (hx : IsP x) (hy : IsP y) : (c_X4_begins x y = 0 ∧ c_X3_restBehind y x = -1) ∨ (¬ c_X4_begins x y = 0 ∧ c_X3_restBehind y x = nI (pth (rsN (rkI x) (rkI y)))) := by
  obtain ⟨r, er⟩ : ∃ r, r = rkI x := ⟨_, rfl⟩
  obtain ⟨P, eP⟩ : ∃ P, P = rkI y := ⟨_, rfl⟩
  have hr : r < 341 := by rw [er]; exact hx.2
  have hP : P < 341 := by rw [eP]; exact hy.2
  have ex : x = nI (pth r) := by rw [er]; exact hx.1
  have ey : y = nI (pth P) := by rw [eP]; exact hy.1
  rw [← er, ← eP]
  have hlx := dn_le r
  -- a cut that gives the point means that the path begins with it
  have tb : ∀ t, t < 5 → anc r t = P → ¬ c_X4_begins x y = 0 := by
    intro t ht h
    rw [ex, ey]
    by_cases h1 : t ≤ dn r
    · have hF := dn_F r hr t ht h1
      obtain ⟨-, -, q3⟩ := an_d r hr t ht hF
      rw [h] at q3
      rw [bg_conv hr hP (by omega) (by rw [show dn r - dn P = t by omega]; exact h)]; decide
    · have h0 : P = 0 := by rw [← h]; exact an_o r hr t ht (by omega)
      rw [bg_conv hr hP (by rw [h0]; exact Nat.zero_le _) (by rw [h0]; exact dn_end hr)]; decide
  by_cases c : c_X4_begins x y = 0
  · left
    refine ⟨c, ?_⟩
    have ng : ∀ t, t < 5 → ¬ x / nI (10 ^ t) = y := fun t ht q => by
      rw [ex, ey] at q
      exact tb t ht ((cutp hr hP ht).mp q) c
    rw [rB_e, if_neg (ng 0 (by decide)), if_neg (ng 1 (by decide)), if_neg (ng 2 (by decide)), if_neg (ng 3 (by decide)), if_neg (ng 4 (by decide))]
  · right
    refine ⟨c, ?_⟩
    obtain ⟨h1, h2⟩ := bg_eq hx hy c
    rw [← er, ← eP] at h1 h2
    obtain ⟨t, et⟩ : ∃ t, t = dn r - dn P := ⟨_, rfl⟩
    rw [← et] at h2
    have yes : x / nI (10 ^ t) = y := by rw [ex, ey]; exact (cutp hr hP (by omega)).mpr h2
    have val : x - x / nI (10 ^ t) * nI (10 ^ t) = nI (pth (rsN r P)) := by rw [ex]; exact rB_val hr (by omega) h2 et.symm
    have no : ∀ s, s < t → ¬ x / nI (10 ^ s) = y := fun s hs q => by
      rw [ex, ey] at q
      have q1 := (cutp hr hP (by omega)).mp q
      have hF := dn_F r hr s (by omega) (by omega)
      obtain ⟨-, -, q3⟩ := an_d r hr s (by omega) hF
      rw [q1] at q3
      omega
    rw [rB_e]
    rcases (show t = 0 ∨ t = 1 ∨ t = 2 ∨ t = 3 ∨ t = 4 by omega) with e | e | e | e | e <;> rw [e] at yes val no
    · rw [if_pos yes]; exact val
    · rw [if_neg (no 0 (by decide)), if_pos yes]; exact val
    · rw [if_neg (no 0 (by decide)), if_neg (no 1 (by decide)), if_pos yes]; exact val
    · rw [if_neg (no 0 (by decide)), if_neg (no 1 (by decide)), if_neg (no 2 (by decide)), if_pos yes]; exact val
    · rw [if_neg (no 0 (by decide)), if_neg (no 1 (by decide)), if_neg (no 2 (by decide)), if_neg (no 3 (by decide)), if_pos yes]; exact val
theorem sbw (h : R2 lc mc bc N G N' G') (hM : MI N' G') (hx : IsP x) {n : Nat} (hn : n ≤ mc) :
    c_X3_sizeByWalking_ln lc mc bc N G x n = if svr G' n (rkI x) = -1 then -1 else c_X3_fileSizeIn lc mc bc N G (c_X3_layerShownBy lc mc bc N G (some (svr G' n (rkI x)).toNatClampNeg) (svq G' n (rkI x))) (svq G' n (rkI x)) := by
  have h8 := h.m8 hM
  induction n with
  | zero => rfl
  | succ n ih =>
    have es : svr G' (n + 1) (rkI x) = if G' 208 n = 0 then svr G' n (rkI x) else if c_X4_begins x (G' 205 n) = 0 then svr G' n (rkI x) else nI n := by
      unfold svr; rw [c_X4_servedBy_ls, ← hx.1]
    obtain ⟨m1, -, -, m4, -, -⟩ := h.1.2.1 n (by omega)
    have hp : IsP (G' 205 n) := MI_pt hM (by have := h.1.1.2.1; omega)
    rw [c_X3_sizeByWalking_ln, mth_k h8 (by omega), ih (by omega)]
    by_cases c : G' 208 n = 0
    · rw [if_pos (by rw [← m4]; exact c)]
      unfold svq
      rw [es, if_pos c]; rfl
    · rw [if_neg (by rw [← m4]; exact c), ocase_s rfl, ← m1]
      rcases rB hx hp with ⟨d, e⟩ | ⟨d, e⟩
      · rw [e, if_pos rfl]
        unfold svq
        rw [es, if_neg c, if_pos d]
      · have hρ : rsN (rkI x) (rkI (G' 205 n)) < 341 := Nat.lt_of_le_of_lt (Nat.sub_le _ _) hx.2
        have hr := isP_pth hρ
        rw [e, if_neg (neg_nI (by have := pt_le _ hρ; omega)), pl_P hr.1, hr.2]
        unfold svq
        rw [es, if_neg c, if_neg d, if_neg (neg_nI (by omega)), nI_clamp (by omega), if_neg (neg_nI (by omega))]
theorem q_sizeByWalking (h : R3 lc mc bc N G N' G') (hM : MI N' G') : (∃ w, c_X3_sizeByWalking lc mc bc N G x = .inr w ∧ c_X4_sizeByWalking a1 a2 a3 N' G' x = w ∧ c_X4_sizeByWalking_N a1 a2 a3 N' G' x 200 15 = 0)
    ∨ (∃ u : Int32, (u = 1 ∧ c_X3_sizeByWalking lc mc bc N G x = .inl "java/lang/IllegalArgumentException") ∧ c_X4_sizeByWalking_N a1 a2 a3 N' G' x 200 15 = u) := by
  unfold c_X3_sizeByWalking c_X4_sizeByWalking c_X4_sizeByWalking_N
  by_cases hx : IsP x
  · left
    rw [cp_P hx, isP_1 hx]
    simp only [scase, if_neg one_ne]
    have e : c_X3_sizeByWalking_ln lc mc bc N G x mc = c_X3_shownFileSize lc mc bc N G (nI (rkI x)) := by
      rw [sbw h.1 hM hx (Nat.le_refl _)]
      unfold c_X3_shownFileSize c_X3_layerShown
      rw [sat_r h.1.2 hx.2, rat_r h.1.2 hx.2]
      by_cases c : svr G' mc (rkI x) = -1
      · rw [if_pos c, c, mth_neg, ocase_n rfl]
        unfold c_X3_layerShownBy c_X3_fileSizeIn
        rw [ocase_n rfl, lay_neg, ocase_n rfl]
      · rw [if_neg c]
        rcases vw (a1 := a1) (a2 := a2) (a3 := a3) h.1 hM hx with ⟨v1, -, -, -⟩ | ⟨j, ρ, hj, hρ, v1, v2, -⟩
        · rw [sat_r h.1.2 hx.2] at v1; exact absurd v1 c
        · rw [sat_r h.1.2 hx.2] at v1 v2
          rw [v2, ocase_s rfl, v1, nI_clamp (by have := h.1.m8 hM; omega)]
    rw [e]
    rcases sfs (a1 := a1) (a2 := a2) (a3 := a3) h hM hx with ⟨f1, f2⟩ | ⟨i, hi, f1, ⟨c, -, f2⟩ | ⟨c, f2⟩⟩
    · rw [f1, f2, if_pos rfl, if_pos rfl]; exact ⟨_, rfl, rfl, rfl⟩
    · rw [f1, f2, if_neg (neg_nI (by omega)), if_neg (neg_nI (by omega)), nI_clamp (by omega), if_pos c, if_pos c]; exact ⟨_, rfl, rfl, rfl⟩
    · have c1 : ¬ G' 201 i = 1 := by rw [c]; decide
      rw [f1, f2, if_neg (neg_nI (by omega)), if_neg (neg_nI (by omega)), nI_clamp (by omega), if_neg c1, if_neg c1]; exact ⟨_, rfl, rfl, rfl⟩
  · right
    rw [cp_N hx, ip_N hx]
    exact ⟨1, ⟨rfl, rfl⟩, rfl⟩
-- the bytes that are shown
theorem R3.gb (h : R3 lc mc bc N G N' G') (hM : MI N' G') (hs : Sm DB G G1) : R3 lc mc bc N G1 N' G' :=
  h.kp (l6 hM h.1.1.1.1) ⟨h.1.1.keep (fun _ _ _ _ => rfl) (fun j => hs 5 j (by omega)) (fun _ _ => rfl) (fun _ _ _ _ => rfl), h.1.2.congr (h.1.m8 hM) (fun j => hs 6 j (by omega)) (fun j => hs 7 j (by omega)) (fun _ _ => ⟨rfl, rfl⟩)⟩ (fun a r q => hs a r (by have := l6 hM h.1.1.1.1; omega)) (fun _ _ _ _ => rfl) rfl rfl
theorem sm_one {f g : Nat → Int32} {i n : Nat} (h : ∀ j, ¬ j = i → g j = f j) : sm g n = if i < n then sm f n - f i + g i else sm f n := by
  induction n with
  | zero => rfl
  | succ n ih =>
    rw [sm, sm, ih]
    by_cases e : n = i
    · subst e
      rw [if_neg (Nat.lt_irrefl n), if_pos (Nat.lt_succ_self n), Int32.add_sub_cancel]
    · rw [h n e]
      by_cases e2 : i < n
      · rw [if_pos e2, if_pos (show i < n + 1 by omega), alg1]
      · rw [if_neg e2, if_neg (show ¬ i < n + 1 by omega)]
def eb (S : Nat → Int32) (i : Nat) : Nat → Bool
  | 0 => false
  | k + 1 => eb S i k || decide (S (k + 1) = nI i)
def vl (G' : Nat → Nat → Int32) (i : Nat) : Int32 := if G' 201 i = 1 then G' 203 i else 0
def eS (S : Nat → Int32) (G' : Nat → Nat → Int32) (k : Nat) : Nat → Int32 := fun i => if eb S i k = true then vl G' i else 0
theorem bs_e {S : Nat → Int32} {i n : Nat} (hS : ∀ r, r < 341 → S r = c_X4_shown a1 a2 a3 N' G' (c_X4_pathOf (nI r))) (hn : n ≤ 340) : (c_bs_a a1 a2 a3 N' G' (nI i) (n + 1) = 0 ↔ eb S i n = false) := by
  induction n with
  | zero => exact ⟨fun _ => rfl, fun _ => rfl⟩
  | succ n ih =>
    have i9 := ih (by omega)
    rw [c_bs_a, if_neg (Nat.succ_ne_zero n), eb, ← hS (n + 1) (by omega)]
    by_cases c : c_bs_a a1 a2 a3 N' G' (nI i) (n + 1) = 0
    · rw [if_pos c, i9.mp c, Bool.false_or]
      by_cases d : S (n + 1) = nI i
      · rw [if_pos d, decide_eq_true d]; exact ⟨fun q => absurd q one_ne, fun q => by cases q⟩
      · rw [if_neg d, decide_eq_false d]; exact ⟨fun _ => rfl, fun _ => rfl⟩
    · rw [if_neg c]
      cases q : eb S i n with
      | false => exact absurd (i9.mpr q) c
      | true => exact ⟨fun q => absurd q one_ne, fun q => by cases q⟩
theorem bs_sm {n : Nat} : c_bs_l a1 a2 a3 N' G' n = sm (fun k => if c_bs_i a1 a2 a3 N' G' k = 0 then 0 else G' 203 k) n := by
  induction n with
  | zero => rfl
  | succ n ih => rw [c_bs_l, ih, sm]
theorem fg_at {l r n : Nat} (hn : n ≤ lc) (h6 : lc ≤ 6) (hl : l < n) (hr : r < 341) : c_X3_shownBytes_fG lc mc bc N G n (140 + l) r = 0 := by
  have fl : ∀ (G : Nat → Nat → Int32) (i m : Nat), r < m → c_X1_forgetCounted_lG lc mc bc N G i m (140 + i) r = 0 := by
    intro G i m
    induction m with
    | zero => intro q; omega
    | succ m ih =>
      intro q
      rw [c_X1_forgetCounted_lG, gu_s]
      by_cases e : r = m
      · rw [if_pos e]
      · rw [if_neg e]; exact ih (by omega)
  have fn : ∀ (G : Nat → Nat → Int32) (i m : Nat), ¬ l = i → c_X1_forgetCounted_lG lc mc bc N G i m (140 + l) r = G (140 + l) r := by
    intro G i m hne
    induction m with
    | zero => rfl
    | succ m ih => rw [c_X1_forgetCounted_lG, gu_n (by omega)]; exact ih
  induction n with
  | zero => omega
  | succ n ih =>
    rw [c_X3_shownBytes_fG, lay_nI (by omega) h6, ocase_s rfl]
    unfold c_X1_forgetCounted_G
    by_cases e : l = n
    · subst e; exact fl _ _ _ hr
    · rw [fn _ _ _ e]; exact ih (by omega) (by omega)
theorem sbc_at (h : R3 lc mc bc N G N' G') (hM : MI N' G') {S : Nat → Int32} (hS : ∀ r, r < 341 → S r = c_X4_shown a1 a2 a3 N' G' (c_X4_pathOf (nI r))) {n : Nat} (hn : n ≤ 340) :
    c_X3_shownBytes_sb lc mc bc N (c_X3_shownBytes_fG lc mc bc N G lc) n = sm (eS S G' n) 2046 ∧ ∀ l r, l < lc → r < 341 → (c_X3_shownBytes_sG lc mc bc N (c_X3_shownBytes_fG lc mc bc N G lc) n (140 + l) r = 0 ↔ eb S (341 * l + r) n = false) := by
  have h6 := l6 hM h.1.1.1.1
  induction n with
  | zero => exact ⟨(sm_zero (fun _ _ => rfl)).symm, fun l r hl hr => ⟨fun _ => rfl, fun _ => fg_at (Nat.le_refl _) h6 hl hr⟩⟩
  | succ n ih =>
    obtain ⟨i1, i2⟩ := ih (by omega)
    have hR := h.gb hM ((sb_sbf h6 lc).tr (sb_sbs h6 n) : Sm DB G (c_X3_shownBytes_sG lc mc bc N (c_X3_shownBytes_fG lc mc bc N G lc) n))
    have hx := isP_pth (show n + 1 < 341 by omega)
    have e1 : nI (1 + n) = nI (rkI (nI (pth (n + 1)))) := by rw [hx.2, Nat.add_comm]
    have eS1 : S (n + 1) = c_X4_shown a1 a2 a3 N' G' (nI (pth (n + 1))) := by rw [hS _ (by omega), pathOf_eq (by omega)]
    rw [c_X3_shownBytes_sb, c_X3_shownBytes_sG, e1]
    rcases sh (a1 := a1) (a2 := a2) (a3 := a3) hR.1 hR.2.1 hM hx.1 with ⟨j, ρ, L, hj, hρ0, hρ, hLl, w1, w3, w4, s1, s2, s3, s4⟩ | ⟨s1, s2⟩
    · rw [s1, w3, lay_nI hLl h6, ocase_s rfl, ocase_s rfl, i1]
      rw [s2] at eS1
      have hflag := i2 L ρ hLl hρ
      unfold c_X1_bytesNotYetCounted c_X1_bytesNotYetCounted_G
      rw [if_neg (fun q => (pl_in (by omega)).mp q hρ), if_neg (fun q => (pl_in (by omega)).mp q hρ), nI_clamp (by omega)]
      have hother : ∀ i, i < 2046 → ¬ i = 341 * L + ρ → eb S i (n + 1) = eb S i n := fun i hi hne => by
        rw [eb, eS1, decide_eq_false (fun q => hne ((nI_eq (by omega) (by omega)).mp q).symm), Bool.or_false]
      have hthis : eb S (341 * L + ρ) (n + 1) = true := by rw [eb, eS1, decide_eq_true rfl, Bool.or_true]
      by_cases c : c_X3_shownBytes_sG lc mc bc N (c_X3_shownBytes_fG lc mc bc N G lc) n (140 + L) ρ = 0
      · have c9 := hflag.mp c
        rw [if_pos c, if_pos c]
        have hv : c_X1_bytesAt lc mc bc N (mt_gu (c_X3_shownBytes_sG lc mc bc N (c_X3_shownBytes_fG lc mc bc N G lc) n) (140 + L) ρ 1) L (nI ρ) = vl G' (341 * L + ρ) := by
          rw [bA hρ]
          unfold bo vl
          rw [gu_n (by omega), gu_n (by omega), hR.2.1.1 L ρ hLl hρ]
          by_cases d : G' 201 (341 * L + ρ) = 1
          · rw [if_pos d, if_pos d, (hR.2.1.2.1 L ρ hLl hρ (Or.inl d)).2]
          · rw [if_neg d, if_neg d]
        refine ⟨?_, fun l r hl hr => ?_⟩
        · have hsum : sm (eS S G' (n + 1)) 2046 = if 341 * L + ρ < 2046 then sm (fun i => if i < 2046 then eS S G' n i else eS S G' (n + 1) i) 2046 - (fun i => if i < 2046 then eS S G' n i else eS S G' (n + 1) i) (341 * L + ρ) + eS S G' (n + 1) (341 * L + ρ) else sm (fun i => if i < 2046 then eS S G' n i else eS S G' (n + 1) i) 2046 := by
            refine sm_one (fun i hi => ?_)
            by_cases q : i < 2046
            · simp only [if_pos q]; unfold eS; rw [hother i q hi]
            · simp only [if_neg q]
          rw [hsum, if_pos (show 341 * L + ρ < 2046 by omega)]
          simp only [if_pos (show 341 * L + ρ < 2046 by omega)]
          rw [sm_congr (f := fun i => if i < 2046 then eS S G' n i else eS S G' (n + 1) i) (g := eS S G' n) (fun i hi => if_pos hi)]
          have z1 : eS S G' n (341 * L + ρ) = 0 := by unfold eS; rw [c9]; rfl
          have z2 : eS S G' (n + 1) (341 * L + ρ) = vl G' (341 * L + ρ) := by unfold eS; rw [if_pos hthis]
          rw [z1, z2, Int32.sub_zero, hv]
        · by_cases e : l = L ∧ r = ρ
          · obtain ⟨e2, e3⟩ := e
            subst e2; subst e3
            rw [gu_s, if_pos rfl, hthis]
            exact ⟨fun q => absurd q one_ne, fun q => by cases q⟩
          · rw [hother _ (by omega) (by omega), ← i2 l r hl hr]
            have : mt_gu (c_X3_shownBytes_sG lc mc bc N (c_X3_shownBytes_fG lc mc bc N G lc) n) (140 + L) ρ 1 (140 + l) r = c_X3_shownBytes_sG lc mc bc N (c_X3_shownBytes_fG lc mc bc N G lc) n (140 + l) r := by
              unfold mt_gu; rw [if_neg (by omega)]
            rw [this]
      · have c9 : eb S (341 * L + ρ) n = true := by
          cases q : eb S (341 * L + ρ) n with
          | true => rfl
          | false => exact absurd (hflag.mpr q) c
        rw [if_neg c, if_neg c, Int32.add_zero]
        have hall : ∀ i, i < 2046 → eb S i (n + 1) = eb S i n := fun i hi => by
          by_cases e : i = 341 * L + ρ
          · rw [e, hthis, c9]
          · exact hother i hi e
        refine ⟨sm_congr (fun i hi => by unfold eS; rw [hall i hi]), fun l r hl hr => ?_⟩
        rw [hall _ (by omega)]; exact i2 l r hl hr
    · rw [s1, lay_neg, ocase_n rfl, ocase_n rfl, i1]
      rw [s2] at eS1
      have hall : ∀ i, i < 2046 → eb S i (n + 1) = eb S i n := fun i hi => by
        rw [eb, eS1, decide_eq_false (fun q => neg_nI (j := i) (by omega) q.symm), Bool.or_false]
      refine ⟨sm_congr (fun i hi => by unfold eS; rw [hall i hi]), fun l r hl hr => ?_⟩
      rw [hall _ (by omega)]; exact i2 l r hl hr
theorem q_shownBytes (h : R3 lc mc bc N G N' G') (hM : MI N' G') : c_X3_shownBytes lc mc bc N G = c_X4_bytesShown a1 a2 a3 N' G' := by
  have h9 := (sbc_at (a1 := a1) (a2 := a2) (a3 := a3) (S := fun r => c_X4_shown a1 a2 a3 N' G' (c_X4_pathOf (nI r))) h hM (fun _ _ => rfl) (Nat.le_refl 340)).1
  unfold c_X3_shownBytes c_X4_bytesShown
  rw [h9, bs_sm]
  refine sm_congr (fun i hi => ?_)
  have hb := bs_e (a1 := a1) (a2 := a2) (a3 := a3) (N' := N') (G' := G') (S := fun r => c_X4_shown a1 a2 a3 N' G' (c_X4_pathOf (nI r))) (i := i) (fun _ _ => rfl) (Nat.le_refl 340)
  unfold eS vl c_bs_i
  by_cases c : G' 201 i = 1
  · rw [if_pos c, if_pos c]
    by_cases d : c_bs_a a1 a2 a3 N' G' (nI i) 341 = 0
    · rw [if_pos d, hb.mp d]; rfl
    · rw [if_neg d]
      cases q : eb (fun r => c_X4_shown a1 a2 a3 N' G' (c_X4_pathOf (nI r))) i 340 with
      | true => rfl
      | false => exact absurd (hb.mpr q) d
  · rw [if_neg c, if_neg c, if_pos rfl]; split <;> rfl
theorem q_allBytes (h : R3 lc mc bc N G N' G') : c_X3_allBytes lc mc bc N G = c_X4_bytesOfAll a1 a2 a3 N' G' := by
  have ub : ∀ o, o < 4 → c_X3_usedBy lc mc bc N G (nI o) = c_X4_used a1 a2 a3 N' G' (nI o) (-1) := fun o ho => by
    unfold c_X3_usedBy c_X4_used
    rw [ow_3n o ho, if_neg one_ne, nI_clamp (by omega)]; exact h.2.2.1 o ho
  unfold c_X3_allBytes c_X4_bytesOfAll
  rw [show (0 : Int32) = nI 0 from rfl, show (1 : Int32) = nI 1 from rfl, show (2 : Int32) = nI 2 from rfl, show (3 : Int32) = nI 3 from rfl, ub 0 (by decide), ub 1 (by decide), ub 2 (by decide), ub 3 (by decide)]
  rw [show nI 0 + c_X4_used a1 a2 a3 N' G' (nI 0) (-1) = c_X4_used a1 a2 a3 N' G' (nI 0) (-1) from Int32.zero_add _]
  rfl
theorem q_hidden (h : R3 lc mc bc N G N' G') (hM : MI N' G') : c_X3_hidden lc mc bc N G = c_X4_hidden a1 a2 a3 N' G' := by
  unfold c_X3_hidden c_X4_hidden
  rw [q_allBytes (a1 := a1) (a2 := a2) (a3 := a3) h, q_shownBytes (a1 := a1) (a2 := a2) (a3 := a3) h hM]
theorem q_shownShare (h : R3 lc mc bc N G N' G') (hM : MI N' G') : (∃ w, c_X3_shownShare lc mc bc N G = .inr w ∧ c_X4_shownShare a1 a2 a3 N' G' = w ∧ c_X4_shownShare_N a1 a2 a3 N' G' 200 15 = 0)
    ∨ (∃ u : Int32, (u = 1 ∧ c_X3_shownShare lc mc bc N G = .inl "java/lang/ArithmeticException") ∧ c_X4_shownShare_N a1 a2 a3 N' G' 200 15 = u) := by
  unfold c_X3_shownShare c_X4_shownShare c_X4_shownShare_N
  rw [q_allBytes (a1 := a1) (a2 := a2) (a3 := a3) h, q_shownBytes (a1 := a1) (a2 := a2) (a3 := a3) h hM]
  by_cases c : c_X4_bytesOfAll a1 a2 a3 N' G' = 0
  · right
    rw [if_pos c, if_pos c]; exact ⟨1, ⟨rfl, rfl⟩, rfl⟩
  · left
    rw [if_neg c, if_neg c, if_neg c]; exact ⟨_, rfl, rfl, rfl⟩
end SL

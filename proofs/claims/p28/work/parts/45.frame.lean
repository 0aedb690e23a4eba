/-! what each side leaves of the other; what holds of the reference is kept by its methods -/
section FR
def HiE (G G1 : Nat → Nat → Int32) : Prop := ∀ k j, 200 ≤ k → G1 k j = G k j
def LoE (G G1 : Nat → Nat → Int32) : Prop := ∀ k j, k < 200 → G1 k j = G k j
theorem P_sc {α β : Type} {P : β → Prop} {r : String ⊕ α} {a : String → β} {f : α → β} (h1 : ∀ E, r = .inl E → P (a E)) (h2 : ∀ x, r = .inr x → P (f x)) : P (scase r a f) := by
  cases r with
  | inl E => exact h1 E rfl
  | inr x => exact h2 x rfl
theorem P_oc {β : Type} {P : β → Prop} {r : Option Nat} {a : β} {f : Nat → β} (h1 : r = none → P a) (h2 : ∀ i, r = some i → P (f i)) : P (ocase r a f) := by
  cases r with
  | none => exact h1 rfl
  | some i => exact h2 i rfl
theorem P_if {β : Type} {P : β → Prop} {c : Prop} [Decidable c] {a b : β} (h1 : c → P a) (h2 : ¬ c → P b) : P (if c then a else b) := by
  by_cases h : c
  · rw [if_pos h]; exact h1 h
  · rw [if_neg h]; exact h2 h
variable {lc mc bc : Nat} {N G N1 G1 G2 : Nat → Nat → Int32} {x y v k w b : Int32}
theorem HiE.rf : HiE G G := fun _ _ _ => rfl
theorem LoE.rf : LoE G G := fun _ _ _ => rfl
theorem HiE.tr (h1 : HiE G G1) (h2 : HiE G1 G2) : HiE G G2 := fun a j h => (h2 a j h).trans (h1 a j h)
theorem LoE.tr (h1 : LoE G G1) (h2 : LoE G1 G2) : LoE G G2 := fun a j h => (h2 a j h).trans (h1 a j h)
theorem HiE.gu {a i : Nat} {x : Int32} (h : HiE G G1) (ha : a < 200) : HiE G (mt_gu G1 a i x) := fun p j hp => by
  unfold mt_gu; rw [if_neg (by omega)]; exact h p j hp
theorem LoE.gu {a i : Nat} {x : Int32} (h : LoE G G1) (ha : 200 ≤ a) : LoE G (mt_gu G1 a i x) := fun p j hp => by
  unfold mt_gu; rw [if_neg (by omega)]; exact h p j hp
theorem hi_use : HiE G (c_X3_use_G lc mc bc N G x v) := P_if (fun _ => HiE.rf) (fun _ => HiE.rf.gu (by omega))
theorem hi_put {i : Nat} (h6 : lc ≤ 6) (hi : i < lc) : HiE G (c_X1_put_G lc mc bc N G i x k w v) := P_if (fun _ => HiE.rf) (fun _ => ((HiE.rf.gu (by omega)).gu (by omega)).gu (by omega))
theorem hi_change {r : Option Nat} (h6 : lc ≤ 6) (hr : ∀ i, r = some i → i < lc) : HiE G (c_X3_change_G lc mc bc N G r x k w v) :=
  P_oc (P := HiE G) (fun _ => HiE.rf) (fun i hi => (hi_use.tr (hi_put h6 (hr i hi))).tr hi_use)
theorem some_lt {i n : Nat} (h : i < n) : ∀ j, some i = some j → j < n := fun _ e => by cases e; exact h
theorem hi_putAt {i : Nat} (h6 : lc ≤ 6) (hi : i < lc) : HiE G (c_X3_putAt_G lc mc bc N G y i k w v) :=
  P_oc (P := HiE G) (fun _ => hi_change h6 (some_lt hi)) (fun _ _ => P_if (fun _ => hi_change h6 (some_lt hi)) (fun _ => P_if (fun _ => hi_change h6 (some_lt hi)) (fun _ => hi_change h6 (some_lt hi))))
theorem hi_write (h6 : lc ≤ 6) : HiE G (c_X3_write_G lc mc bc N G x y v) :=
  P_sc (P := HiE G) (fun _ _ => HiE.rf) (fun _ _ => P_if (fun _ => HiE.rf) (fun _ => P_if (fun _ => P_sc (P := HiE G) (fun _ _ => HiE.rf) (fun _ _ => P_sc (P := HiE G) (fun _ _ => HiE.rf) (fun _ h => P_if (fun _ => hi_putAt h6 (c_layerToWrite_lt h)) (fun _ => HiE.rf)))) (fun _ => HiE.rf)))
theorem hi_link (h6 : lc ≤ 6) : HiE G (c_X3_link_G lc mc bc N G x y v) :=
  P_sc (P := HiE G) (fun _ _ => HiE.rf) (fun _ _ => P_sc (P := HiE G) (fun _ _ => HiE.rf) (fun _ _ => P_sc (P := HiE G) (fun _ _ => HiE.rf) (fun _ _ => P_sc (P := HiE G) (fun _ _ => HiE.rf) (fun _ h => hi_putAt h6 (c_layerToWrite_lt h)))))
theorem none_lt {n : Nat} : ∀ j, (none : Option Nat) = some j → j < n := fun _ e => by cases e
theorem hi_remove (h6 : lc ≤ 6) : HiE G (c_X3_remove_G lc mc bc N G x) :=
  P_sc (P := HiE G) (fun _ _ => HiE.rf) (fun _ _ => P_sc (P := HiE G) (fun _ _ => HiE.rf) (fun _ _ => P_oc (P := HiE G) (fun _ => HiE.rf) (fun _ _ => P_if (fun _ => P_oc (P := HiE G) (fun _ => hi_change h6 none_lt) (fun _ h => hi_change h6 (some_lt (c_layerAt_lt h)))) (fun _ => P_if (fun _ => P_oc (P := HiE G) (fun _ => hi_change h6 none_lt) (fun _ h => hi_change h6 (some_lt (c_layerAt_lt h)))) (fun _ => P_oc (P := HiE G) (fun _ => hi_change h6 none_lt) (fun _ h => hi_change h6 (some_lt (c_layerAt_lt h))))))))
theorem hi_sb4 (n : Nat) : HiE G (c_X3_serveBehind_l4G lc mc bc N G x v n) := by
  induction n with
  | zero => exact HiE.rf
  | succ n ih => exact P_if (P := HiE G) (fun _ => ih) (fun _ => (ih.gu (by omega)).gu (by omega))
theorem hi_sb3 (n : Nat) : HiE G (c_X3_serveBehind_l3G lc mc bc N G x v n) := by
  induction n with
  | zero => exact HiE.rf
  | succ n ih => exact P_if (P := HiE G) (fun _ => ih) (fun _ => (ih.gu (by omega)).gu (by omega))
theorem hi_sb2 (n : Nat) : HiE G (c_X3_serveBehind_l2G lc mc bc N G x v n) := by
  induction n with
  | zero => exact HiE.rf
  | succ n ih => exact P_if (P := HiE G) (fun _ => ih) (fun _ => (ih.gu (by omega)).gu (by omega))
theorem hi_sb1 (n : Nat) : HiE G (c_X3_serveBehind_l1G lc mc bc N G x v n) := by
  induction n with
  | zero => exact HiE.rf
  | succ n ih => exact P_if (P := HiE G) (fun _ => ih) (fun _ => (ih.gu (by omega)).gu (by omega))
theorem hi_sb0 (n : Nat) : HiE G (c_X3_serveBehind_l0G lc mc bc N G x v n) := by
  induction n with
  | zero => exact HiE.rf
  | succ n ih => exact P_if (P := HiE G) (fun _ => ih) (fun _ => (ih.gu (by omega)).gu (by omega))
theorem hi_serveBehind : HiE G (c_X3_serveBehind_G lc mc bc N G x v) := ((((hi_sb0 1).tr (hi_sb1 4)).tr (hi_sb2 16)).tr (hi_sb3 64)).tr (hi_sb4 256)
theorem hi_sva (n : Nat) : HiE G (c_X3_serveAgain_aG lc mc bc N G n) := by
  induction n with
  | zero => exact HiE.rf
  | succ n ih => exact (ih.gu (by omega)).gu (by omega)
theorem hi_svb (n : Nat) : HiE G (c_X3_serveAgain_bG lc mc bc N G n) := by
  induction n with
  | zero => exact HiE.rf
  | succ n ih => exact P_oc (P := HiE G) (fun _ => ih) (fun _ _ => ih.tr hi_serveBehind)
theorem hi_serveAgain : HiE G (c_X3_serveAgain_G lc mc bc N G) := (hi_sva 341).tr (hi_svb mc)
theorem hi_unmount : HiE G (c_X3_unmount_G lc mc bc N G x) := P_sc (P := HiE G) (fun _ _ => HiE.rf) (fun _ _ => hi_serveAgain)
theorem hi_move : HiE G (c_X3_move_G lc mc bc N G x y) := P_sc (P := HiE G) (fun _ _ => HiE.rf) (fun _ _ => P_sc (P := HiE G) (fun _ _ => HiE.rf) (fun _ _ => hi_serveAgain))
theorem hi_forget {i : Nat} (h6 : lc ≤ 6) (hi : i < lc) (n : Nat) : HiE G (c_X1_forgetCounted_lG lc mc bc N G i n) := by
  induction n with
  | zero => exact HiE.rf
  | succ n ih => exact ih.gu (by omega)
theorem hi_notYet {i : Nat} (h6 : lc ≤ 6) (hi : i < lc) : HiE G (c_X1_bytesNotYetCounted_G lc mc bc N G i x) := P_if (P := HiE G) (fun _ => HiE.rf) (fun _ => P_if (P := HiE G) (fun _ => HiE.rf.gu (by omega)) (fun _ => HiE.rf))
theorem hi_sbf (h6 : lc ≤ 6) (n : Nat) : HiE G (c_X3_shownBytes_fG lc mc bc N G n) := by
  induction n with
  | zero => exact HiE.rf
  | succ n ih => exact P_oc (P := HiE G) (fun _ => ih) (fun _ h => ih.tr (hi_forget h6 (c_layerAt_lt h) 341))
theorem hi_sbs (h6 : lc ≤ 6) (n : Nat) : HiE G (c_X3_shownBytes_sG lc mc bc N G n) := by
  induction n with
  | zero => exact HiE.rf
  | succ n ih => exact P_oc (P := HiE G) (fun _ => ih) (fun _ h => ih.tr (hi_notYet h6 (c_layerAt_lt h)))
theorem hi_shownBytes (h6 : lc ≤ 6) : HiE G (c_X3_shownBytes_G lc mc bc N G) := (hi_sbf h6 lc).tr (hi_sbs h6 340)
theorem hi_hidden (h6 : lc ≤ 6) : HiE G (c_X3_hidden_G lc mc bc N G) := hi_shownBytes h6
theorem hi_shownShare (h6 : lc ≤ 6) : HiE G (c_X3_shownShare_G lc mc bc N G) := P_if (P := HiE G) (fun _ => HiE.rf) (fun _ => hi_shownBytes h6)
theorem hi_setQuota : HiE G (c_X3_setQuota_G lc mc bc N G x y) := P_sc (P := HiE G) (fun _ _ => HiE.rf) (fun _ _ => P_if (P := HiE G) (fun _ => HiE.rf) (fun _ => P_if (P := HiE G) (fun _ => P_if (P := HiE G) (fun _ => HiE.rf) (fun _ => HiE.rf.gu (by omega))) (fun _ => HiE.rf)))
theorem hi_g0 (h : lc ≤ 6) : HiE G (mt_g0 G lc) := fun p j hp => by unfold mt_g0; rw [if_neg (by omega)]
theorem hi_gb {f : Nat → Int32} (h : bc ≤ 6) : HiE G (mt_gb G bc f) := fun p j hp => by unfold mt_gb; rw [if_neg (by omega)]
theorem hi_nm (h : mc ≤ 8) : HiE N (mt_nm N mc x y v) := fun p j hp => by unfold mt_nm; rw [if_neg (by omega)]
theorem hi_nb (h : bc ≤ 6) : HiE N (mt_nb N bc x) := fun p j hp => by unfold mt_nb; rw [if_neg (by omega)]
theorem hi_unmountN (h8 : mc ≤ 8) : HiE N (c_X3_unmount_N lc mc bc N G x) := P_sc (P := HiE N) (fun _ _ => HiE.rf) (fun i h => HiE.rf.gu (by have := c_checkedMount_lt h; omega))
theorem hi_moveN (h8 : mc ≤ 8) : HiE N (c_X3_move_N lc mc bc N G x y) := P_sc (P := HiE N) (fun _ _ => HiE.rf) (fun i h => P_sc (P := HiE N) (fun _ _ => HiE.rf) (fun _ _ => HiE.rf.gu (by have := c_checkedMount_lt h; omega)))
theorem hi_setCrossingN (h8 : mc ≤ 8) : HiE N (c_X3_setCrossing_N lc mc bc N G x b) := P_sc (P := HiE N) (fun _ _ => HiE.rf) (fun i h => HiE.rf.gu (by have := c_checkedMount_lt h; omega))
theorem hi_putAtN {i : Nat} : HiE N (c_X3_putAt_N lc mc bc N G y i k w v) := P_oc (P := HiE N) (fun _ => HiE.rf) (fun _ _ => P_if (P := HiE N) (fun _ => HiE.rf) (fun _ => P_if (P := HiE N) (fun _ => HiE.rf.gu (by omega)) (fun _ => HiE.rf)))
theorem hi_writeN : HiE N (c_X3_write_N lc mc bc N G x y v) :=
  P_sc (P := HiE N) (fun _ _ => HiE.rf) (fun _ _ => P_if (P := HiE N) (fun _ => HiE.rf) (fun _ => P_if (P := HiE N) (fun _ => P_sc (P := HiE N) (fun _ _ => HiE.rf) (fun _ _ => P_sc (P := HiE N) (fun _ _ => HiE.rf) (fun _ _ => P_if (P := HiE N) (fun _ => hi_putAtN) (fun _ => HiE.rf)))) (fun _ => HiE.rf)))
theorem hi_linkN : HiE N (c_X3_link_N lc mc bc N G x y v) :=
  P_sc (P := HiE N) (fun _ _ => HiE.rf) (fun _ _ => P_sc (P := HiE N) (fun _ _ => HiE.rf) (fun _ _ => P_sc (P := HiE N) (fun _ _ => HiE.rf) (fun _ _ => P_sc (P := HiE N) (fun _ _ => HiE.rf) (fun _ _ => hi_putAtN))))
/-- whether a mount is crossing is 0 or 1 -/
def Q01 (mc : Nat) (N : Nat → Nat → Int32) : Prop := ∀ i, i < mc → N (150 + i) 4 = 0 ∨ N (150 + i) 4 = 1
theorem Q01.gu {a i : Nat} (h : Q01 mc N) (ha : a < 150 ∨ ¬ i = 4 ∨ 200 ≤ a) (h8 : mc ≤ 8) : Q01 mc (mt_gu N a i x) := fun j hj => by
  unfold mt_gu; rw [if_neg (by omega)]; exact h j hj
theorem q01_unmount (h : Q01 mc N) (h8 : mc ≤ 8) : Q01 mc (c_X3_unmount_N lc mc bc N G x) := P_sc (P := Q01 mc) (fun _ _ => h) (fun _ _ => h.gu (Or.inr (Or.inl (by decide))) h8)
theorem q01_move (h : Q01 mc N) (h8 : mc ≤ 8) : Q01 mc (c_X3_move_N lc mc bc N G x y) := P_sc (P := Q01 mc) (fun _ _ => h) (fun _ _ => P_sc (P := Q01 mc) (fun _ _ => h) (fun _ _ => h.gu (Or.inr (Or.inl (by decide))) h8))
theorem q01_setCrossing (h : Q01 mc N) (hb : b = 0 ∨ b = 1) : Q01 mc (c_X3_setCrossing_N lc mc bc N G x b) := P_sc (P := Q01 mc) (fun _ _ => h) (fun i _ => fun j hj => by
  unfold mt_gu
  by_cases e : 150 + j = 150 + i ∧ 4 = 4
  · rw [if_pos e]; exact hb
  · rw [if_neg e]; exact h j hj)
theorem q01_putAt {i : Nat} (h : Q01 mc N) (h8 : mc ≤ 8) : Q01 mc (c_X3_putAt_N lc mc bc N G y i k w v) := P_oc (P := Q01 mc) (fun _ => h) (fun _ _ => P_if (P := Q01 mc) (fun _ => h) (fun _ => P_if (P := Q01 mc) (fun _ => h.gu (Or.inl (by decide)) h8) (fun _ => h)))
theorem q01_write (h : Q01 mc N) (h8 : mc ≤ 8) : Q01 mc (c_X3_write_N lc mc bc N G x y v) :=
  P_sc (P := Q01 mc) (fun _ _ => h) (fun _ _ => P_if (P := Q01 mc) (fun _ => h) (fun _ => P_if (P := Q01 mc) (fun _ => P_sc (P := Q01 mc) (fun _ _ => h) (fun _ _ => P_sc (P := Q01 mc) (fun _ _ => h) (fun _ _ => P_if (P := Q01 mc) (fun _ => q01_putAt h h8) (fun _ => h)))) (fun _ => h)))
theorem q01_link (h : Q01 mc N) (h8 : mc ≤ 8) : Q01 mc (c_X3_link_N lc mc bc N G x y v) :=
  P_sc (P := Q01 mc) (fun _ _ => h) (fun _ _ => P_sc (P := Q01 mc) (fun _ _ => h) (fun _ _ => P_sc (P := Q01 mc) (fun _ _ => h) (fun _ _ => P_sc (P := Q01 mc) (fun _ _ => h) (fun _ _ => q01_putAt h h8))))
theorem q01_nm (h : Q01 mc N) : Q01 (mc + 1) (mt_nm N mc x y v) := fun j hj => by
  unfold mt_nm
  by_cases e : 150 + j = 150 + mc
  · rw [if_pos e]; exact Or.inl rfl
  · rw [if_neg e]; exact h j (by omega)
theorem q01_nb (h : Q01 mc N) (h8 : mc ≤ 8) : Q01 mc (mt_nb N bc x) := fun j hj => by
  unfold mt_nb; rw [if_neg (by omega)]; exact h j hj
theorem q01_lo (h : Q01 mc N) (h8 : mc ≤ 8) (hL : LoE N N1) : Q01 mc N1 := fun j hj => by
  rw [hL _ _ (by omega)]; exact h j hj
-- the reference
theorem gu_s {a i j : Nat} {u : Int32} : mt_gu G a i u a j = if j = i then u else G a j := by
  unfold mt_gu
  by_cases e : j = i
  · rw [if_pos ⟨rfl, e⟩, if_pos e]
  · rw [if_neg (fun q => e q.2), if_neg e]
theorem gu_n {a p i j : Nat} {u : Int32} (h : ¬ p = a) : mt_gu G a i u p j = G p j := by unfold mt_gu; rw [if_neg (fun q => h q.1)]
theorem MI.hi (h : MI N G) (hN : HiE N N1) (hG : HiE G G1) : MI N1 G1 := by
  have n := fun j => hN 200 j (by omega)
  have q : lqN N1 = lqN N := by unfold lqN; rw [n]
  have q1 : mqN N1 = mqN N := by unfold mqN; rw [n]
  have q2 : bqN N1 = bqN N := by unfold bqN; rw [n]
  unfold MI
  rw [q, q1, q2, n, n, n]
  obtain ⟨h1, h2, h3, h4, h5, h7, h8, h9, h10⟩ := h
  refine ⟨h1, h2, h3, h4, h5, h7, fun a ha => ?_, fun a => ?_, fun a ha => ?_⟩
  · rw [hG _ _ (by omega), hG _ _ (by omega), hG _ _ (by omega)]; exact h8 a ha
  · rw [hG _ _ (by omega), hG _ _ (by omega), hG _ _ (by omega)]; exact h9 a
  · rw [hG _ _ (by omega), hG _ _ (by omega)]; exact h10 a ha
/-- what a method of the reference keeps -/
def RS (N G N1 G1 : Nat → Nat → Int32) : Prop := MI N1 G1 ∧ LoE N N1 ∧ LoE G G1 ∧ N1 200 3 = N 200 3
theorem RS_t (h : MI N G) : RS N G (mt_gu N 200 15 v) G := ⟨MI_t h, LoE.rf.gu (by omega), LoE.rf, rfl⟩
theorem RS_tG (h : MI N G1) (hL : LoE G G1) : RS N G (mt_gu N 200 15 v) G1 := ⟨MI_t h, LoE.rf.gu (by omega), hL, rfl⟩
theorem rs_unmount (h : MI N G) : RS N G (c_X4_unmount_N lc mc bc N G x) (c_X4_unmount_G lc mc bc N G x) := by
  unfold c_X4_unmount_N c_X4_unmount_G
  by_cases c1 : c_X4_isMount lc mc bc N G x = 0
  · rw [if_pos c1, if_pos c1]; exact RS_t h
  · rw [if_neg c1, if_neg c1]
    refine RS_tG ?_ (LoE.rf.gu (by omega))
    obtain ⟨h1, h2, h3, h4, h5, h7, h8, h9, h10⟩ := h
    refine ⟨h1, h2, h3, h4, h5, h7, h8, fun a => ⟨?_, (h9 a).2⟩, h10⟩
    show Bo (mt_gu G 208 x.toNatClampNeg 0 208 a)
    unfold mt_gu
    split
    · exact Or.inl rfl
    · exact (h9 a).1
theorem rs_setCrossing (h : MI N G) (hb : Bo b) : RS N G (c_X4_setCrossing_N lc mc bc N G x b) (c_X4_setCrossing_G lc mc bc N G x b) := by
  unfold c_X4_setCrossing_N c_X4_setCrossing_G
  by_cases c1 : c_X4_isMount lc mc bc N G x = 0
  · rw [if_pos c1, if_pos c1]; exact RS_t h
  · rw [if_neg c1, if_neg c1]
    refine RS_tG ?_ (LoE.rf.gu (by omega))
    obtain ⟨h1, h2, h3, h4, h5, h7, h8, h9, h10⟩ := h
    refine ⟨h1, h2, h3, h4, h5, h7, h8, fun a => ⟨(h9 a).1, ?_, (h9 a).2.2⟩, h10⟩
    show Bo (mt_gu G 209 x.toNatClampNeg b 209 a)
    unfold mt_gu
    split
    · exact hb
    · exact (h9 a).2.1
theorem rs_move (h : MI N G) : RS N G (c_X4_move_N lc mc bc N G x y) (c_X4_move_G lc mc bc N G x y) := by
  unfold c_X4_move_N c_X4_move_G
  by_cases c1 : c_X4_isMount lc mc bc N G x = 0
  · rw [if_pos c1, if_pos c1]; exact RS_t h
  · rw [if_neg c1, if_neg c1]
    by_cases c2 : c_X4_isPath y = 0
    · rw [if_pos c2, if_pos c2]; exact RS_t h
    · rw [if_neg c2, if_neg c2]
      refine RS_tG ?_ (LoE.rf.gu (by omega))
      obtain ⟨h1, h2, h3, h4, h5, h7, h8, h9, h10⟩ := h
      refine ⟨h1, h2, h3, h4, h5, h7, fun a ha => ⟨?_, (h8 a ha).2⟩, h9, h10⟩
      show IsP (mt_gu G 205 x.toNatClampNeg y 205 a)
      unfold mt_gu
      split
      · exact isP_of c2
      · exact (h8 a ha).1
theorem MI_mount (h : MI N G) (h9 : ¬ N 200 9 = 8) (hx : IsP x) (hy : ∃ j, j < lqN N ∧ y = nI j) (hv : v = -1 ∨ ∃ j, j < lqN N ∧ v = nI j) : MI (mt_gu (mt_gu N 200 15 0) 200 9 (N 200 9 + 1)) (mt_gu (mt_gu (mt_gu (mt_gu (mt_gu G 205 (N 200 9).toNatClampNeg x) 206 (N 200 9).toNatClampNeg y) 207 (N 200 9).toNatClampNeg v) 208 (N 200 9).toNatClampNeg 1) 209 (N 200 9).toNatClampNeg 0) := by
  obtain ⟨h1, h2, h3, h4, h5, h7, h8, h10, h11⟩ := h
  have hlt : mqN N < 8 := by
    rcases Nat.lt_or_ge (mqN N) 8 with q | q
    · exact q
    · exact absurd (by rw [h5, show mqN N = 8 by omega]; rfl) h9
  have e1 : N 200 9 + 1 = nI (mqN N + 1) := by rw [h5]; exact nI_1 _
  have e2 : mqN (mt_gu (mt_gu N 200 15 0) 200 9 (N 200 9 + 1)) = mqN N + 1 := by
    show (N 200 9 + 1).toNatClampNeg = _
    rw [e1]; exact nI_clamp (by omega)
  refine ⟨h1, by rw [e2]; omega, h3, h4, ?_, h7, fun a ha => ?_, fun a => ?_, h11⟩
  · rw [e2]; exact e1
  · rw [e2] at ha
    have q5 : (mt_gu (mt_gu (mt_gu (mt_gu (mt_gu G 205 (N 200 9).toNatClampNeg x) 206 (N 200 9).toNatClampNeg y) 207 (N 200 9).toNatClampNeg v) 208 (N 200 9).toNatClampNeg 1) 209 (N 200 9).toNatClampNeg 0) 205 a = if a = mqN N then x else G 205 a := by rw [gu_n (by decide), gu_n (by decide), gu_n (by decide), gu_n (by decide), gu_s]; rfl
    have q6 : (mt_gu (mt_gu (mt_gu (mt_gu (mt_gu G 205 (N 200 9).toNatClampNeg x) 206 (N 200 9).toNatClampNeg y) 207 (N 200 9).toNatClampNeg v) 208 (N 200 9).toNatClampNeg 1) 209 (N 200 9).toNatClampNeg 0) 206 a = if a = mqN N then y else G 206 a := by rw [gu_n (by decide), gu_n (by decide), gu_n (by decide), gu_s]; rfl
    have q7 : (mt_gu (mt_gu (mt_gu (mt_gu (mt_gu G 205 (N 200 9).toNatClampNeg x) 206 (N 200 9).toNatClampNeg y) 207 (N 200 9).toNatClampNeg v) 208 (N 200 9).toNatClampNeg 1) 209 (N 200 9).toNatClampNeg 0) 207 a = if a = mqN N then v else G 207 a := by rw [gu_n (by decide), gu_n (by decide), gu_s]; rfl
    rw [q5, q6, q7]
    by_cases e : a = mqN N
    · rw [if_pos e, if_pos e, if_pos e]; exact ⟨hx, hy, hv⟩
    · rw [if_neg e, if_neg e, if_neg e]; exact h8 a (by omega)
  · refine ⟨?_, ?_, (h10 a).2.2⟩
    · have q8 : (mt_gu (mt_gu (mt_gu (mt_gu (mt_gu G 205 (N 200 9).toNatClampNeg x) 206 (N 200 9).toNatClampNeg y) 207 (N 200 9).toNatClampNeg v) 208 (N 200 9).toNatClampNeg 1) 209 (N 200 9).toNatClampNeg 0) 208 a = if a = mqN N then 1 else G 208 a := by rw [gu_n (by decide), gu_s]; rfl
      rw [q8]; split
      · exact Or.inr rfl
      · exact (h10 a).1
    · have q8 : (mt_gu (mt_gu (mt_gu (mt_gu (mt_gu G 205 (N 200 9).toNatClampNeg x) 206 (N 200 9).toNatClampNeg y) 207 (N 200 9).toNatClampNeg v) 208 (N 200 9).toNatClampNeg 1) 209 (N 200 9).toNatClampNeg 0) 209 a = if a = mqN N then 0 else G 209 a := by rw [gu_s]; rfl
      rw [q8]; split
      · exact Or.inl rfl
      · exact (h10 a).2.1
theorem RS_mount (h : MI N G) (h9 : ¬ N 200 9 = 8) (hx : IsP x) (hy : ∃ j, j < lqN N ∧ y = nI j) (hv : v = -1 ∨ ∃ j, j < lqN N ∧ v = nI j) : RS N G (mt_gu (mt_gu N 200 15 0) 200 9 (N 200 9 + 1)) (mt_gu (mt_gu (mt_gu (mt_gu (mt_gu G 205 (N 200 9).toNatClampNeg x) 206 (N 200 9).toNatClampNeg y) 207 (N 200 9).toNatClampNeg v) 208 (N 200 9).toNatClampNeg 1) 209 (N 200 9).toNatClampNeg 0) :=
  ⟨MI_mount h h9 hx hy hv, (LoE.rf.gu (by omega)).gu (by omega), ((((LoE.rf.gu (by omega)).gu (by omega)).gu (by omega)).gu (by omega)).gu (by omega), rfl⟩
theorem rs_mount (h : MI N G) : RS N G (c_X4_mount_N lc mc bc N G x y v) (c_X4_mount_G lc mc bc N G x y v) := by
  unfold c_X4_mount_N c_X4_mount_G
  by_cases c1 : c_X4_isPath x = 0
  · simp only [if_pos c1]; exact RS_t h
  simp only [if_neg c1]
  by_cases c2 : y = v
  · simp only [if_pos c2]; exact RS_t h
  simp only [if_neg c2]
  by_cases c3 : c_X4_isLayer lc mc bc N G y = 0
  · simp only [if_pos c3]; exact RS_t h
  simp only [if_neg c3]
  have hy := inI_l h c3
  by_cases c4 : v = -1
  · simp only [if_pos c4]
    by_cases c5 : c_X4_isUpper lc mc bc N G y = 0
    · simp only [if_pos c5, if_pos c4]
      by_cases c6 : N 200 9 = 8
      · simp only [if_pos c6]; exact RS_t h
      · simp only [if_neg c6]; exact RS_mount h c6 (isP_of c1) hy (Or.inl c4)
    · simp only [if_neg c5]; exact RS_t h
  · simp only [if_neg c4]
    by_cases c7 : c_X4_isLayer lc mc bc N G v = 0
    · simp only [if_pos c7]; exact RS_t h
    simp only [if_neg c7]
    by_cases c5 : c_X4_isUpper lc mc bc N G y = 0
    · simp only [if_pos c5, if_neg c4]
      by_cases c8 : c_X4_isUsed lc mc bc N G v = 0
      · simp only [if_pos c8]
        by_cases c6 : N 200 9 = 8
        · simp only [if_pos c6]; exact RS_t h
        · simp only [if_neg c6]; exact RS_mount h c6 (isP_of c1) hy (Or.inr (inI_l h c7))
      · simp only [if_neg c8]; exact RS_t h
    · simp only [if_neg c5]; exact RS_t h
theorem MI_puts {t : Nat} (h : MI N G) (hk : k = 2 → IsP v) : MI N (mt_gu (mt_gu (mt_gu G 201 t k) 202 t w) 203 t v) := by
  obtain ⟨h1, h2, h3, h4, h5, h7, h8, h9, h10⟩ := h
  refine ⟨h1, h2, h3, h4, h5, h7, h8, h9, fun a ha => ?_⟩
  have q1 : (mt_gu (mt_gu (mt_gu G 201 t k) 202 t w) 203 t v) 201 a = if a = t then k else G 201 a := by rw [gu_n (by decide), gu_n (by decide), gu_s]
  have q3 : (mt_gu (mt_gu (mt_gu G 201 t k) 202 t w) 203 t v) 203 a = if a = t then v else G 203 a := by rw [gu_s, gu_n (by decide), gu_n (by decide)]
  rw [q1, q3]
  by_cases e : a = t
  · rw [if_pos e, if_pos e]; exact hk
  · rw [if_neg e, if_neg e]; exact h10 a ha
theorem MI_kind {t : Nat} (h : MI N G) (hk : ¬ k = 2) : MI N (mt_gu G 201 t k) := by
  obtain ⟨h1, h2, h3, h4, h5, h7, h8, h9, h10⟩ := h
  refine ⟨h1, h2, h3, h4, h5, h7, h8, h9, fun a ha => ?_⟩
  have q1 : (mt_gu G 201 t k) 201 a = if a = t then k else G 201 a := gu_s
  have q3 : (mt_gu G 201 t k) 203 a = G 203 a := gu_n (by decide)
  rw [q1, q3]
  by_cases e : a = t
  · rw [if_pos e]; exact fun q => absurd q hk
  · rw [if_neg e]; exact h10 a ha
theorem RS_puts (h : MI N G) (hk : k = 2 → IsP v) : RS N G (c_X4_puts_N lc mc bc (mt_gu N 200 15 0) G y k w v) (c_X4_puts_G lc mc bc (mt_gu N 200 15 0) G y k w v) := by
  have key : ∀ (t : Nat) (u : Int32), RS N G (mt_gu (mt_gu N 200 15 0) 200 11 u) (mt_gu (mt_gu (mt_gu G 201 t k) 202 t w) 203 t v) := fun t u =>
    ⟨MI_puts (show MI (mt_gu (mt_gu N 200 15 0) 200 11 u) G from h) hk, (LoE.rf.gu (by omega)).gu (by omega), ((LoE.rf.gu (by omega)).gu (by omega)).gu (by omega), rfl⟩
  unfold c_X4_puts_N c_X4_puts_G
  by_cases c1 : c_X4_shown lc mc bc (mt_gu N 200 15 0) G y = -1
  · rw [if_pos c1, if_pos c1]; exact key _ _
  rw [if_neg c1, if_neg c1]
  by_cases c2 : c_X4_shown lc mc bc (mt_gu N 200 15 0) G y = c_X4_target lc mc bc (mt_gu N 200 15 0) G y
  · rw [if_pos c2, if_pos c2]; exact key _ _
  · rw [if_neg c2, if_neg c2]; exact key _ _
theorem rs_write (h : MI N G) : RS N G (c_X4_write_N lc mc bc N G x y v) (c_X4_write_G lc mc bc N G x y v) := by
  unfold c_X4_write_N c_X4_write_G
  by_cases c1 : c_X4_isOwner x = 0
  · rw [if_pos c1, if_pos c1]; exact RS_t h
  rw [if_neg c1, if_neg c1]
  by_cases c2 : c_inI v 0 9999 = 0
  · rw [if_pos c2, if_pos c2]; exact RS_t h
  rw [if_neg c2, if_neg c2]
  by_cases c3 : c_X4_isPath y = 0
  · rw [if_pos c3, if_pos c3]; exact RS_t h
  rw [if_neg c3, if_neg c3]
  by_cases c4 : c_X4_canWrite lc mc bc N G y = 0
  · rw [if_pos c4, if_pos c4]; exact RS_t h
  rw [if_neg c4, if_neg c4]
  by_cases c5 : c_X4_used lc mc bc N G x (c_X4_target lc mc bc N G y) + v ≤ G 211 x.toNatClampNeg
  · rw [if_pos c5, if_pos c5]; exact RS_puts h (fun q => absurd q (by decide))
  · rw [if_neg c5, if_neg c5]; exact RS_t h
theorem rs_link (h : MI N G) : RS N G (c_X4_link_N lc mc bc N G x y v) (c_X4_link_G lc mc bc N G x y v) := by
  unfold c_X4_link_N c_X4_link_G
  by_cases c1 : c_X4_isOwner x = 0
  · rw [if_pos c1, if_pos c1]; exact RS_t h
  rw [if_neg c1, if_neg c1]
  by_cases c3 : c_X4_isPath y = 0
  · rw [if_pos c3, if_pos c3]; exact RS_t h
  rw [if_neg c3, if_neg c3]
  by_cases c5 : c_X4_isPath v = 0
  · rw [if_pos c5, if_pos c5]; exact RS_t h
  rw [if_neg c5, if_neg c5]
  by_cases c4 : c_X4_canWrite lc mc bc N G y = 0
  · rw [if_pos c4, if_pos c4]; exact RS_t h
  rw [if_neg c4, if_neg c4]
  exact RS_puts h (fun _ => isP_of c5)
theorem rs_remove (h : MI N G) : RS N G (c_X4_remove_N lc mc bc N G x) (c_X4_remove_G lc mc bc N G x) := by
  have key : ∀ (t : Nat) (u : Int32), ¬ u = 2 → RS N G (mt_gu N 200 15 0) (mt_gu G 201 t u) := fun t u hu => RS_tG (MI_kind h hu) (LoE.rf.gu (by omega))
  have z0 : ¬ (0 : Int32) = 2 := by decide
  have z3 : ¬ (3 : Int32) = 2 := by decide
  have e1 : ∀ {c : Prop} [Decidable c] (a : Nat → Nat → Int32), (if c then a else a) = a := fun a => by split <;> rfl
  unfold c_X4_remove_N c_X4_remove_G
  by_cases c1 : c_X4_isPath x = 0
  · rw [if_pos c1, if_pos c1]; exact RS_t h
  rw [if_neg c1, if_neg c1]
  by_cases c3 : c_X4_shown lc mc bc N G x = -1
  · rw [if_pos c3, if_pos c3]; exact RS_t h
  rw [if_neg c3, if_neg c3]
  simp only [e1]
  exact P_if (P := fun q => RS N G (mt_gu N 200 15 0) q) (fun _ => key _ _ z0) (fun _ => P_if (P := fun q => RS N G (mt_gu N 200 15 0) q) (fun _ => key _ _ z3) (fun _ => P_if (P := fun q => RS N G (mt_gu N 200 15 0) q) (fun _ => key _ _ z3) (fun _ => key _ _ z0)))
theorem rs_setQuota (h : MI N G) : RS N G (c_X4_setQuota_N lc mc bc N G x y) (c_X4_setQuota_G lc mc bc N G x y) := by
  unfold c_X4_setQuota_N c_X4_setQuota_G
  by_cases c1 : c_X4_isOwner x = 0
  · rw [if_pos c1, if_pos c1]; exact RS_t h
  rw [if_neg c1, if_neg c1]
  by_cases c2 : c_inI y 0 99999 = 0
  · rw [if_pos c2, if_pos c2]; exact RS_t h
  rw [if_neg c2, if_neg c2]
  exact RS_tG h (LoE.rf.gu (by omega))
theorem bl_ne {n a j : Nat} (ha : ¬ a = 213) : c_X4_backUp_lG lc mc bc N G b n a j = G a j := by
  induction n with
  | zero => rfl
  | succ n ih =>
    show mt_gu _ 213 _ _ a j = _
    unfold mt_gu
    rw [if_neg (fun q => ha q.1)]; exact ih
theorem rs_backUp (h : MI N G) (hb : Bo b) : RS N G (c_X4_backUp_N lc mc bc N G b) (c_X4_backUp_G lc mc bc N G b) := by
  unfold c_X4_backUp_N c_X4_backUp_G
  by_cases c1 : N 200 14 = 6
  · rw [if_pos c1, if_pos c1]; exact RS_t h
  rw [if_neg c1, if_neg c1]
  refine ⟨?_, (LoE.rf.gu (by omega)).gu (by omega), LoE.gu (fun a j ha => bl_ne (by omega)) (by omega), rfl⟩
  obtain ⟨h1, h2, h3, h4, h5, h7, h8, h9, h10⟩ := h
  have hlt : bqN N < 6 := by
    rcases Nat.lt_or_ge (bqN N) 6 with q | q
    · exact q
    · exact absurd (by rw [h7, show bqN N = 6 by omega]; rfl) c1
  have e1 : N 200 14 + 1 = nI (bqN N + 1) := by rw [h7]; exact nI_1 _
  have e2 : bqN (mt_gu (mt_gu N 200 15 0) 200 14 (N 200 14 + 1)) = bqN N + 1 := by
    show (N 200 14 + 1).toNatClampNeg = _
    rw [e1]; exact nI_clamp (by omega)
  have f : ∀ (a j : Nat), ¬ a = 213 → ¬ a = 214 → mt_gu (c_X4_backUp_lG lc mc bc N G b 2046) 214 (N 200 14).toNatClampNeg b a j = G a j := fun a j h1 h2 => by
    show (if a = 214 ∧ _ then _ else _) = _
    rw [if_neg (fun q => h2 q.1)]; exact bl_ne h1
  refine ⟨h1, h2, by rw [e2]; omega, h4, h5, ?_, fun a ha => ?_, fun a => ?_, fun a ha => ?_⟩
  · rw [e2]; exact e1
  · rw [f _ _ (by decide) (by decide), f _ _ (by decide) (by decide), f _ _ (by decide) (by decide)]; exact h8 a ha
  · rw [f _ _ (by decide) (by decide), f _ _ (by decide) (by decide)]
    refine ⟨(h9 a).1, (h9 a).2.1, ?_⟩
    show Bo (if 214 = 214 ∧ a = _ then _ else _)
    split
    · exact hb
    · rw [bl_ne (by decide)]; exact (h9 a).2.2
  · rw [f _ _ (by decide) (by decide), f _ _ (by decide) (by decide)]; exact h10 a ha
/-- where only 'thrown' changes -/
theorem rs_if {c : Prop} [Decidable c] {A B : Nat → Nat → Int32} (h1 : RS N G A G) (h2 : RS N G B G) : RS N G (if c then A else B) G := by split <;> assumption
theorem ad_r (h : MI N G) : MI (c_X4_addLayer_N lc mc bc N G) G ∧ LoE N (c_X4_addLayer_N lc mc bc N G) ∧ lqN (c_X4_addLayer_N lc mc bc N G) = (if lqN N = 6 then 6 else lqN N + 1) := by
  obtain ⟨h1, h2, h3, h4, h5, h7, h8, h9, h10⟩ := id h
  unfold c_X4_addLayer_N
  by_cases c1 : N 200 3 = 6
  · have e6 : lqN N = 6 := by unfold lqN; rw [c1]; rfl
    rw [if_pos c1, if_pos e6]; exact ⟨MI_t h, LoE.rf.gu (by omega), e6⟩
  · have hlt : lqN N < 6 := by
      rcases Nat.lt_or_ge (lqN N) 6 with q | q
      · exact q
      · exact absurd (by rw [h4, show lqN N = 6 by omega]; rfl) c1
    have e1 : N 200 3 + 1 = nI (lqN N + 1) := by rw [h4]; exact nI_1 _
    have e2 : lqN (mt_gu (mt_gu N 200 15 0) 200 3 (N 200 3 + 1)) = lqN N + 1 := by
      show (N 200 3 + 1).toNatClampNeg = _
      rw [e1]; exact nI_clamp (by omega)
    rw [if_neg c1, if_neg (by omega)]
    refine ⟨⟨by rw [e2]; omega, h2, h3, by rw [e2]; exact e1, h5, h7, fun a ha => ?_, h9, h10⟩, (LoE.rf.gu (by omega)).gu (by omega), e2⟩
    obtain ⟨q1, ⟨j, q2, q3⟩, q4⟩ := h8 a ha
    rw [e2]
    refine ⟨q1, ⟨j, by omega, q3⟩, ?_⟩
    rcases q4 with q4 | ⟨j, q4, q5⟩
    · exact Or.inl q4
    · exact Or.inr ⟨j, by omega, q5⟩
end FR

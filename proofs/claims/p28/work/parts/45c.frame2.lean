/-! the same, finer -/
section SM
def Sm (D : Nat → Nat → Prop) (G G1 : Nat → Nat → Int32) : Prop := ∀ k j, ¬ D k j → G1 k j = G k j
variable {D : Nat → Nat → Prop} {lc mc bc : Nat} {N G N1 G1 G2 : Nat → Nat → Int32} {x y v k w b : Int32}
theorem Sm.rf : Sm D G G := fun _ _ _ => rfl
theorem Sm.tr (h1 : Sm D G G1) (h2 : Sm D G1 G2) : Sm D G G2 := fun a j h => (h2 a j h).trans (h1 a j h)
theorem Sm.gu {a i : Nat} {x : Int32} (h : Sm D G G1) (ha : D a i) : Sm D G (mt_gu G1 a i x) := fun p j hp => by
  unfold mt_gu; rw [if_neg (fun q => hp (by rw [q.1, q.2]; exact ha))]; exact h p j hp
abbrev DW : Nat → Nat → Prop := fun k j => k = 4 ∨ (110 ≤ k ∧ k < 150)
theorem sw_use : Sm DW G (c_X3_use_G lc mc bc N G x v) := P_if (fun _ => Sm.rf) (fun _ => Sm.rf.gu (by omega))
theorem sw_put {i : Nat} (h6 : lc ≤ 6) (hi : i < lc) : Sm DW G (c_X1_put_G lc mc bc N G i x k w v) := P_if (fun _ => Sm.rf) (fun _ => ((Sm.rf.gu (by omega)).gu (by omega)).gu (by omega))
theorem sw_change {r : Option Nat} (h6 : lc ≤ 6) (hr : ∀ i, r = some i → i < lc) : Sm DW G (c_X3_change_G lc mc bc N G r x k w v) :=
  P_oc (P := Sm DW G) (fun _ => Sm.rf) (fun i hi => (sw_use.tr (sw_put h6 (hr i hi))).tr sw_use)
theorem sw_putAt {i : Nat} (h6 : lc ≤ 6) (hi : i < lc) : Sm DW G (c_X3_putAt_G lc mc bc N G y i k w v) :=
  P_oc (P := Sm DW G) (fun _ => sw_change h6 (some_lt hi)) (fun _ _ => P_if (fun _ => sw_change h6 (some_lt hi)) (fun _ => P_if (fun _ => sw_change h6 (some_lt hi)) (fun _ => sw_change h6 (some_lt hi))))
theorem sw_write (h6 : lc ≤ 6) : Sm DW G (c_X3_write_G lc mc bc N G x y v) :=
  P_sc (P := Sm DW G) (fun _ _ => Sm.rf) (fun _ _ => P_if (fun _ => Sm.rf) (fun _ => P_if (fun _ => P_sc (P := Sm DW G) (fun _ _ => Sm.rf) (fun _ _ => P_sc (P := Sm DW G) (fun _ _ => Sm.rf) (fun _ h => P_if (fun _ => sw_putAt h6 (c_layerToWrite_lt h)) (fun _ => Sm.rf)))) (fun _ => Sm.rf)))
theorem sw_link (h6 : lc ≤ 6) : Sm DW G (c_X3_link_G lc mc bc N G x y v) :=
  P_sc (P := Sm DW G) (fun _ _ => Sm.rf) (fun _ _ => P_sc (P := Sm DW G) (fun _ _ => Sm.rf) (fun _ _ => P_sc (P := Sm DW G) (fun _ _ => Sm.rf) (fun _ _ => P_sc (P := Sm DW G) (fun _ _ => Sm.rf) (fun _ h => sw_putAt h6 (c_layerToWrite_lt h)))))
theorem sw_remove (h6 : lc ≤ 6) : Sm DW G (c_X3_remove_G lc mc bc N G x) :=
  P_sc (P := Sm DW G) (fun _ _ => Sm.rf) (fun _ _ => P_sc (P := Sm DW G) (fun _ _ => Sm.rf) (fun _ _ => P_oc (P := Sm DW G) (fun _ => Sm.rf) (fun _ _ => P_if (fun _ => P_oc (P := Sm DW G) (fun _ => sw_change h6 none_lt) (fun _ h => sw_change h6 (some_lt (c_layerAt_lt h)))) (fun _ => P_if (fun _ => P_oc (P := Sm DW G) (fun _ => sw_change h6 none_lt) (fun _ h => sw_change h6 (some_lt (c_layerAt_lt h)))) (fun _ => P_oc (P := Sm DW G) (fun _ => sw_change h6 none_lt) (fun _ h => sw_change h6 (some_lt (c_layerAt_lt h))))))))
abbrev DS : Nat → Nat → Prop := fun k j => k = 6 ∨ k = 7
theorem ss_sb4 (n : Nat) : Sm DS G (c_X3_serveBehind_l4G lc mc bc N G x v n) := by
  induction n with
  | zero => exact Sm.rf
  | succ n ih => exact P_if (P := Sm DS G) (fun _ => ih) (fun _ => (ih.gu (by omega)).gu (by omega))
theorem ss_sb3 (n : Nat) : Sm DS G (c_X3_serveBehind_l3G lc mc bc N G x v n) := by
  induction n with
  | zero => exact Sm.rf
  | succ n ih => exact P_if (P := Sm DS G) (fun _ => ih) (fun _ => (ih.gu (by omega)).gu (by omega))
theorem ss_sb2 (n : Nat) : Sm DS G (c_X3_serveBehind_l2G lc mc bc N G x v n) := by
  induction n with
  | zero => exact Sm.rf
  | succ n ih => exact P_if (P := Sm DS G) (fun _ => ih) (fun _ => (ih.gu (by omega)).gu (by omega))
theorem ss_sb1 (n : Nat) : Sm DS G (c_X3_serveBehind_l1G lc mc bc N G x v n) := by
  induction n with
  | zero => exact Sm.rf
  | succ n ih => exact P_if (P := Sm DS G) (fun _ => ih) (fun _ => (ih.gu (by omega)).gu (by omega))
theorem ss_sb0 (n : Nat) : Sm DS G (c_X3_serveBehind_l0G lc mc bc N G x v n) := by
  induction n with
  | zero => exact Sm.rf
  | succ n ih => exact P_if (P := Sm DS G) (fun _ => ih) (fun _ => (ih.gu (by omega)).gu (by omega))
theorem ss_serveBehind : Sm DS G (c_X3_serveBehind_G lc mc bc N G x v) := ((((ss_sb0 1).tr (ss_sb1 4)).tr (ss_sb2 16)).tr (ss_sb3 64)).tr (ss_sb4 256)
theorem ss_sva (n : Nat) : Sm DS G (c_X3_serveAgain_aG lc mc bc N G n) := by
  induction n with
  | zero => exact Sm.rf
  | succ n ih => exact (ih.gu (by omega)).gu (by omega)
theorem ss_svb (n : Nat) : Sm DS G (c_X3_serveAgain_bG lc mc bc N G n) := by
  induction n with
  | zero => exact Sm.rf
  | succ n ih => exact P_oc (P := Sm DS G) (fun _ => ih) (fun _ _ => ih.tr ss_serveBehind)
theorem ss_serveAgain : Sm DS G (c_X3_serveAgain_G lc mc bc N G) := (ss_sva 341).tr (ss_svb mc)
theorem ss_unmount : Sm DS G (c_X3_unmount_G lc mc bc N G x) := P_sc (P := Sm DS G) (fun _ _ => Sm.rf) (fun _ _ => ss_serveAgain)
theorem ss_move : Sm DS G (c_X3_move_G lc mc bc N G x y) := P_sc (P := Sm DS G) (fun _ _ => Sm.rf) (fun _ _ => P_sc (P := Sm DS G) (fun _ _ => Sm.rf) (fun _ _ => ss_serveAgain))
abbrev DB : Nat → Nat → Prop := fun k j => 140 ≤ k ∧ k < 150
theorem sb_forget {i : Nat} (h6 : lc ≤ 6) (hi : i < lc) (n : Nat) : Sm DB G (c_X1_forgetCounted_lG lc mc bc N G i n) := by
  induction n with
  | zero => exact Sm.rf
  | succ n ih => exact ih.gu (by omega)
theorem sb_notYet {i : Nat} (h6 : lc ≤ 6) (hi : i < lc) : Sm DB G (c_X1_bytesNotYetCounted_G lc mc bc N G i x) := P_if (P := Sm DB G) (fun _ => Sm.rf) (fun _ => P_if (P := Sm DB G) (fun _ => Sm.rf.gu (by omega)) (fun _ => Sm.rf))
theorem sb_sbf (h6 : lc ≤ 6) (n : Nat) : Sm DB G (c_X3_shownBytes_fG lc mc bc N G n) := by
  induction n with
  | zero => exact Sm.rf
  | succ n ih => exact P_oc (P := Sm DB G) (fun _ => ih) (fun _ h => ih.tr (sb_forget h6 (c_layerAt_lt h) 341))
theorem sb_sbs (h6 : lc ≤ 6) (n : Nat) : Sm DB G (c_X3_shownBytes_sG lc mc bc N G n) := by
  induction n with
  | zero => exact Sm.rf
  | succ n ih => exact P_oc (P := Sm DB G) (fun _ => ih) (fun _ h => ih.tr (sb_notYet h6 (c_layerAt_lt h)))
theorem sb_shownBytes (h6 : lc ≤ 6) : Sm DB G (c_X3_shownBytes_G lc mc bc N G) := (sb_sbf h6 lc).tr (sb_sbs h6 340)
theorem sb_hidden (h6 : lc ≤ 6) : Sm DB G (c_X3_hidden_G lc mc bc N G) := sb_shownBytes h6
theorem sb_shownShare (h6 : lc ≤ 6) : Sm DB G (c_X3_shownShare_G lc mc bc N G) := P_if (P := Sm DB G) (fun _ => Sm.rf) (fun _ => sb_shownBytes h6)
abbrev DQ : Nat → Nat → Prop := fun k j => k = 5
theorem sq_setQuota : Sm DQ G (c_X3_setQuota_G lc mc bc N G x y) := P_sc (P := Sm DQ G) (fun _ _ => Sm.rf) (fun _ _ => P_if (P := Sm DQ G) (fun _ => Sm.rf) (fun _ => P_if (P := Sm DQ G) (fun _ => P_if (P := Sm DQ G) (fun _ => Sm.rf) (fun _ => Sm.rf.gu (by omega))) (fun _ => Sm.rf)))
abbrev DP : Nat → Nat → Prop := fun k j => k = 0 ∧ j = 10
theorem sp_putAtN {i : Nat} : Sm DP N (c_X3_putAt_N lc mc bc N G y i k w v) := P_oc (P := Sm DP N) (fun _ => Sm.rf) (fun _ _ => P_if (P := Sm DP N) (fun _ => Sm.rf) (fun _ => P_if (P := Sm DP N) (fun _ => Sm.rf.gu (by omega)) (fun _ => Sm.rf)))
theorem sp_writeN : Sm DP N (c_X3_write_N lc mc bc N G x y v) :=
  P_sc (P := Sm DP N) (fun _ _ => Sm.rf) (fun _ _ => P_if (P := Sm DP N) (fun _ => Sm.rf) (fun _ => P_if (P := Sm DP N) (fun _ => P_sc (P := Sm DP N) (fun _ _ => Sm.rf) (fun _ _ => P_sc (P := Sm DP N) (fun _ _ => Sm.rf) (fun _ _ => P_if (P := Sm DP N) (fun _ => sp_putAtN) (fun _ => Sm.rf)))) (fun _ => Sm.rf)))
theorem sp_linkN : Sm DP N (c_X3_link_N lc mc bc N G x y v) :=
  P_sc (P := Sm DP N) (fun _ _ => Sm.rf) (fun _ _ => P_sc (P := Sm DP N) (fun _ _ => Sm.rf) (fun _ _ => P_sc (P := Sm DP N) (fun _ _ => Sm.rf) (fun _ _ => P_sc (P := Sm DP N) (fun _ _ => Sm.rf) (fun _ _ => sp_putAtN))))
end SM

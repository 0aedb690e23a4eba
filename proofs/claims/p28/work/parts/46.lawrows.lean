section MTLR
variable {p : Program} {l : Launch} {e : Env} {R : Room} {s : State} {m : MethodId} {args : Array Value} {below : List Frame} {meth : Method} {c : Code} {H : Heap} {locs : List Loc} {cells slots : Nat} {Q : State → Prop}
variable {cc : ByteArray} {nL pc : Nat} {ls : Array Slot} {rest st0 : List Value} {g : mt_G} {z : Nat} {w : mt_w} {ad : Nat → Nat} {w0 : Cond} {own : String} {W' : (Nat → Nat) → mt_w} {CC : (Nat → Nat) → Prop} {r : Int32}
def mt_pL (y : MethodName) (cc : ByteArray) (maxL : Nat) (hh : List (Nat × Nat × Nat × Nat)) (n : Nat) : Prop := Cond.static y ∈ mt_T ∧ Cond.initialized y.cls ∈ mt_T ∧ Cond.codeWith y cc maxL (some .int) hh ∈ mt_T ∧ y.cls ≠ "java/lang/invoke/MethodHandle" ∧ y.cls ≠ "java/lang/invoke/VarHandle" ∧ (parseMethodDescriptor y.desc).map (fun d => d.parameters.length) = some n
theorem mt_inL {idx : Nat} {y : MethodName} {cc : ByteArray} {maxL : Nat} {hh : List (Nat × Nat × Nat × Nat)} {n : Nat} (P : mt_pL y cc maxL hh n) (hl : Cond.methodLink own idx y ∈ mt_T) : GoodIn (w0 :: mt_T) (va_wsS own idx y (Cond.codeWith y cc maxL (some .int) hh :: mt_T)) := mt_in fun w hw => by
  obtain ⟨h1, h2, h3, -⟩ := P
  rcases List.mem_append.mp hw with h | h
  · rcases List.mem_cons.mp h with rfl | h
    · exact hl
    · rcases List.mem_cons.mp h with rfl | h
      · exact h1
      · rcases List.mem_cons.mp h with rfl | h
        · exact h2
        · cases h
  · rcases List.mem_cons.mp h with rfl | h
    · exact h3
    · exact h
/-- the law calls one of its own methods -/
theorem mt_cL {index : Nat} {y : MethodName} {bytes : ByteArray} {maxL : Nat} {hh : List (Nat × Nat × Nat × Nat)} {n fr lo mc1 ms1 : Nat} {As : List Value}
    (S : CallFix p m c cc nL s args (w0 :: mt_T) own) (P : mt_pL y bytes maxL hh n) (hlink : Cond.methodLink own index y ∈ mt_T) (hM : mt_KL l g z y bytes maxL hh fr lo mc1 ms1 As w ad r W' CC) (hC : mt_C g z s) (hW : mt_W g z w ad H) (hS : va_S (mt_A z) s.heap H locs)
    (hn : As.length = n) (hl : ls.size = nL) (hst : st0 = As.reverse ++ rest) (hcat : (rest.map fun v => v.category).sum ≤ 8) (hdg : decode cc pc = .ok (.invokestatic index, 3)) (hR : fr + 1 ≤ R.frames ∧ 8 + (maxL + 11) + lo ≤ R.locals) (hf : cells + mc1 ≤ R.cells ∧ slots + ms1 ≤ R.slots)
    (kk : ∀ (H1 : Heap) (locs1 : List Loc) (a1 : Nat → Nat), CC a1 → mt_W g z (W' a1) a1 H1 → va_S (mt_A z) s.heap H1 locs1 → W p l e R s m args below meth c H1 locs1 (cells + mc1) (slots + ms1) Q (F0 m (pc + 3) ls (.int r :: rest))) :
    W p l e R s m args below meth c H locs cells slots Q (F0 m pc ls st0) := by
  subst hst
  obtain ⟨P1, P2, P3, P4, P5, P6⟩ := id P
  have hcw := vx_cwSW (R := R) (s := s) (args := args) (own := own) (rm := { frames := fr, cells := mc1, slots := ms1, locals := lo }) (mc := mc1) (ms := ms1) n S.2.2.2.2 (mt_inL P hlink) rfl rfl rfl ⟨P4, P5, P6⟩ hR
  have hr := vx_runSW (rest := rest) (g := F0 m pc ls (As.reverse ++ rest)) (cells := cells) (slots := slots) (locs := locs) (below := below) (meth := meth) (e := e) (H := H) S hM hcw ⟨mt_blind, fun U hU hW9 => ⟨rfl, hC.go hS hU hW9, by rw [hU]; exact hW⟩⟩ rfl hn hl rfl (lv_room hcat) hdg hf
  intro T hT X
  obtain ⟨v', st₀, t, T', L, h0, X', hL, e1, e2, ⟨a1, v9, hcc, hv1, hv2, hw1, hF⟩, st⟩ := hr T hT X
  obtain ⟨k1, k2, k3⟩ := vx_keep h0 e1 hS (fun _ _ h => h) (fun _ h => h) hL hF
  cases hv1; cases hv2
  obtain ⟨t2, a2, b1⟩ := kk T'.heap (locs ++ L) a1 hcc (by rw [e1]; exact hw1) k3 T' rfl X'
  exact ⟨t2, st t2 a2, b1⟩
/-- one number of the script -/
theorem lw_arg {b L i kn : Nat} {xs : Nat → Int32} {kz : Int} (hexec : p.tables.exec = Jvm.exec) (hb : c.code = cc) (hX : va_X b L xs s s.heap) (hbl : b < s.heap.size) (hbA : ¬ mt_A z b) (hS : va_S (mt_A z) s.heap H locs) (hL : L ≤ 2048) (hi : i + kn < L) (h0 : ls[0]? = some (.val (.ref b))) (h5 : ls[5]? = some (.val (.int (nI i))))
    (d0 : decode cc pc = .ok (.aload_n 0, 1)) (d1 : decode cc (pc + 1) = .ok (.iload 5, 2)) (d3 : decode cc (pc + 3) = .ok (.iconst kz, 1)) (d4 : decode cc (pc + 4) = .ok (.iadd, 1)) (d5 : decode cc (pc + 5) = .ok (.iaload, 1)) (hz : Int32.ofInt kz = nI kn)
    (kk : W p l e R s m args below meth c H locs cells slots Q (F0 m (pc + 6) ls (.int (xs (i + kn)) :: rest))) : W p l e R s m args below meth c H locs cells slots Q (F0 m pc ls rest) := by
  refine lv_aload_n hexec hb d0 rfl h0 ?_
  refine lv_iload hexec hb d1 h5 ?_
  refine lv_iconst (v := nI kn) hexec hb d3 hz ?_
  refine lv_iadd hexec hb d4 ?_
  rw [nI_add]
  refine va_sld hexec hb hX hbl hbA hS (i := nI (i + kn)) (vp_in_nI hi (by omega)) d5 ?_
  rw [nI_clamp (by omega)]
  exact kk
theorem lw_bool {v : Int32} (hexec : p.tables.exec = Jvm.exec) (hb : c.code = cc) (d0 : decode cc pc = .ok (.ifCond .eq 7, 3)) (d1 : decode cc (pc + 3) = .ok (.iconst 1, 1)) (d2 : decode cc (pc + 4) = .ok (.goto 4, 3)) (d3 : decode cc (pc + 7) = .ok (.iconst 0, 1))
    (kk : W p l e R s m args below meth c H locs cells slots Q (F0 m (pc + 8) ls (.int (if v = 0 then 0 else 1) :: rest))) : W p l e R s m args below meth c H locs cells slots Q (F0 m pc ls (.int v :: rest)) := by
  refine lv_if_eq (tgt := pc + 7) hexec hb d0 (by omega) (fun c1 => ?_) (fun c1 => ?_)
  · rw [if_pos c1] at kk
    exact lv_iconst (v := 0) hexec hb d3 (by decide) kk
  · rw [if_neg c1] at kk
    refine lv_iconst (v := 1) hexec hb d1 (by decide) ?_
    exact lv_goto (tgt := pc + 8) hexec hb d2 (by omega) kk
theorem b01 {v : Int32} : (if v = 0 then (0 : Int32) else 1) = 0 ∨ (if v = 0 then (0 : Int32) else 1) = 1 := by
  by_cases h : v = 0
  · rw [if_pos h]; exact Or.inl rfl
  · rw [if_neg h]; exact Or.inr rfl
theorem wc_sl {lc mc bc : Nat} {N G : Nat → Nat → Int32} {o : Nat → Int64} {d : mt_D} {α : Type} {q : String ⊕ α} {f : α → Nat → Int64} : scase q (fun _ => mt_wc g ad lc mc bc N G o d) (fun x => mt_wc g ad lc mc bc N G (f x) d) = mt_wc g ad lc mc bc N G (scase q (fun _ => o) f) d := by cases q <;> rfl
theorem wc_sd {lc mc bc : Nat} {N G : Nat → Nat → Int32} {o : Nat → Int64} {d : mt_D} {α : Type} {q : String ⊕ α} {f : α → Nat → UInt64} : scase q (fun _ => mt_wc g ad lc mc bc N G o d) (fun x => mt_wc g ad lc mc bc N G o (f x, d.2)) = mt_wc g ad lc mc bc N G o (scase q (fun _ => d.1) f, d.2) := by cases q <;> rfl
end MTLR
theorem pL_addLayer : mt_pL yL_addLayer cL_addLayer 3 [(0, 8, 11, 13)] 2 := ⟨mw_st_L_addLayer, mw_in_L, mw_cw_L_addLayer, by decide +kernel, by decide +kernel, by decide +kernel⟩
theorem pL_backUp : mt_pL yL_backUp cL_backUp 4 [(0, 9, 12, 13)] 3 := ⟨mw_st_L_backUp, mw_in_L, mw_cw_L_backUp, by decide +kernel, by decide +kernel, by decide +kernel⟩
theorem pL_bytes : mt_pL yL_bytes cL_bytes 4 [(0, 9, 12, 21)] 3 := ⟨mw_st_L_bytes, mw_in_L, mw_cw_L_bytes, by decide +kernel, by decide +kernel, by decide +kernel⟩
theorem pL_differences : mt_pL yL_differences cL_differences 4 [(0, 9, 12, 21)] 3 := ⟨mw_st_L_differences, mw_in_L, mw_cw_L_differences, by decide +kernel, by decide +kernel, by decide +kernel⟩
theorem pL_end : mt_pL yL_end cL_end 4 [(0, 9, 12, 19), (0, 9, 15, 23), (0, 9, 18, 13)] 3 := ⟨mw_st_L_end, mw_in_L, mw_cw_L_end, by decide +kernel, by decide +kernel, by decide +kernel⟩
theorem pL_layerOf : mt_pL yL_layerOf cL_layerOf 4 [(0, 9, 12, 19), (0, 9, 15, 40)] 3 := ⟨mw_st_L_layerOf, mw_in_L, mw_cw_L_layerOf, by decide +kernel, by decide +kernel, by decide +kernel⟩
theorem pL_link : mt_pL yL_link cL_link 6 [(0, 12, 15, 19), (0, 12, 19, 40)] 5 := ⟨mw_st_L_link, mw_in_L, mw_cw_L_link, by decide +kernel, by decide +kernel, by decide +kernel⟩
theorem pL_meanSize : mt_pL yL_meanSize cL_meanSize 4 [(0, 8, 11, 21), (0, 8, 14, 96)] 3 := ⟨mw_st_L_meanSize, mw_in_L, mw_cw_L_meanSize, by decide +kernel, by decide +kernel, by decide +kernel⟩
theorem pL_mount : mt_pL yL_mount cL_mount 6 [(0, 12, 15, 19), (0, 12, 19, 21), (0, 12, 23, 23), (0, 12, 27, 13)] 5 := ⟨mw_st_L_mount, mw_in_L, mw_cw_L_mount, by decide +kernel, by decide +kernel, by decide +kernel⟩
theorem pL_move : mt_pL yL_move cL_move 5 [(0, 10, 13, 21), (0, 10, 17, 19)] 4 := ⟨mw_st_L_move, mw_in_L, mw_cw_L_move, by decide +kernel, by decide +kernel, by decide +kernel⟩
theorem pL_ownerOf : mt_pL yL_ownerOf cL_ownerOf 4 [(0, 9, 12, 19), (0, 9, 15, 40)] 3 := ⟨mw_st_L_ownerOf, mw_in_L, mw_cw_L_ownerOf, by decide +kernel, by decide +kernel, by decide +kernel⟩
theorem pL_remove : mt_pL yL_remove cL_remove 4 [(0, 9, 12, 19), (0, 9, 15, 40)] 3 := ⟨mw_st_L_remove, mw_in_L, mw_cw_L_remove, by decide +kernel, by decide +kernel, by decide +kernel⟩
theorem pL_served : mt_pL yL_served cL_served 4 [(0, 9, 12, 19), (0, 9, 15, 40)] 3 := ⟨mw_st_L_served, mw_in_L, mw_cw_L_served, by decide +kernel, by decide +kernel, by decide +kernel⟩
theorem pL_setCrossing : mt_pL yL_setCrossing cL_setCrossing 5 [(0, 17, 20, 21)] 4 := ⟨mw_st_L_setCrossing, mw_in_L, mw_cw_L_setCrossing, by decide +kernel, by decide +kernel, by decide +kernel⟩
theorem pL_setQuota : mt_pL yL_setQuota cL_setQuota 5 [(0, 10, 13, 19)] 4 := ⟨mw_st_L_setQuota, mw_in_L, mw_cw_L_setQuota, by decide +kernel, by decide +kernel, by decide +kernel⟩
theorem pL_shownShare : mt_pL yL_shownShare cL_shownShare 3 [(0, 8, 11, 96)] 2 := ⟨mw_st_L_shownShare, mw_in_L, mw_cw_L_shownShare, by decide +kernel, by decide +kernel, by decide +kernel⟩
theorem pL_shows : mt_pL yL_shows cL_shows 4 [(0, 9, 12, 19)] 3 := ⟨mw_st_L_shows, mw_in_L, mw_cw_L_shows, by decide +kernel, by decide +kernel, by decide +kernel⟩
theorem pL_size : mt_pL yL_size cL_size 4 [(0, 9, 12, 19), (0, 9, 15, 23), (0, 9, 18, 13), (0, 9, 21, 40)] 3 := ⟨mw_st_L_size, mw_in_L, mw_cw_L_size, by decide +kernel, by decide +kernel, by decide +kernel⟩
theorem pL_sizeByWalking : mt_pL yL_sizeByWalking cL_sizeByWalking 4 [(0, 9, 12, 19)] 3 := ⟨mw_st_L_sizeByWalking, mw_in_L, mw_cw_L_sizeByWalking, by decide +kernel, by decide +kernel, by decide +kernel⟩
theorem pL_unmount : mt_pL yL_unmount cL_unmount 4 [(0, 9, 12, 21)] 3 := ⟨mw_st_L_unmount, mw_in_L, mw_cw_L_unmount, by decide +kernel, by decide +kernel, by decide +kernel⟩
theorem pL_used : mt_pL yL_used cL_used 4 [(0, 9, 12, 19)] 3 := ⟨mw_st_L_used, mw_in_L, mw_cw_L_used, by decide +kernel, by decide +kernel, by decide +kernel⟩
theorem pL_usedByLayers : mt_pL yL_usedByLayers cL_usedByLayers 4 [(0, 9, 12, 19)] 3 := ⟨mw_st_L_usedByLayers, mw_in_L, mw_cw_L_usedByLayers, by decide +kernel, by decide +kernel, by decide +kernel⟩
theorem pL_whiteouts : mt_pL yL_whiteouts cL_whiteouts 4 [(0, 9, 12, 21)] 3 := ⟨mw_st_L_whiteouts, mw_in_L, mw_cw_L_whiteouts, by decide +kernel, by decide +kernel, by decide +kernel⟩
theorem pL_write : mt_pL yL_write cL_write 6 [(0, 12, 15, 19), (0, 12, 19, 40), (0, 12, 23, 23)] 5 := ⟨mw_st_L_write, mw_in_L, mw_cw_L_write, by decide +kernel, by decide +kernel, by decide +kernel⟩

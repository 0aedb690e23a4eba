section MTE
variable {p : Program} {l : Launch} {e : Env} {R : Room} {s : State} {m : MethodId} {args : Array Value} {below : List Frame} {meth : Method} {c : Code} {H : Heap} {locs : List Loc} {cells slots : Nat} {Q : State → Prop}
variable {cc : ByteArray} {nL pc : Nat} {ls : Array Slot} {rest st0 : List Value} {g : mt_G} {z : Nat} {w w' : mt_w} {ad ad' : Nat → Nat} {w0 : Cond} {own : String} {res : mt_R} {mc ms : Nat}
abbrev mt_E (below : List Frame) (g : mt_G) (z : Nat) (w : mt_w) (ad : Nat → Nat) (res : mt_R) (args : Array Value) (s : State) (mc ms : Nat) : State → Prop := vx_MQ below (mt_Q g z w ad res) (mt_X g z w ad res) args s mc ms (mt_A z)
/-- a method's start -/
theorem mt_ofW {y : MethodName} {maxL fr lo : Nat} {ret : Option FieldType} {av : List Value} (hy : plainName y.cls = true) (hlen : (lg_sl av).length ≤ maxL)
    (body : ∀ (p : Program) (e : Env) (s : State) (m : MethodId) (args : Array Value) (below : List Frame) (meth : Method) (c : Code), CallFix p m c cc maxL s args (Cond.code y cc maxL ret :: mt_T) y.cls → meth.sig.returnType = ret → meth.locks = false → meth.name = y.name → (∀ x ∈ c.exceptionTable.toList, False) → mt_C g z s → mt_W g z w ad s.heap → va_S (mt_A z) s.heap s.heap [] → ∀ ls : Array Slot, lv_has ls maxL (lv_args 0 av) →
      W p l e ({ frames := fr, cells := mc, slots := ms, locals := lo } : Room) s m args below meth c s.heap [] 0 0 (mt_E below g z w' ad' res args s mc ms) (F0 m 0 ls [])) : mt_K l g z y cc maxL ret fr lo mc ms av w ad res w' ad' := by
  refine vx_ofW hy rfl ?_
  intro p e s m args below meth c s₁ B hml ht hv
  obtain ⟨rfl, hC, hW⟩ := hv
  have hl := lv_entry av hlen
  rw [lg_entry_eq]
  exact body p e s m _ below meth c ⟨B.exec, B.bytes, hml, findClass_of_methodNamed B.named, atoms_spec (ws := Cond.code y cc maxL ret :: mt_T) B.pre⟩ B.returns B.notSynchronized (name_of_methodNamed B.named B.method).1 ht hC hW va_S.rf _ hl
/-- its ends -/
theorem mt_ri {v : Int32} (S : CallFix p m c cc nL s args (w0 :: mt_T) own) (hr : meth.sig.returnType = some .int) (hk : meth.locks = false) (hW : mt_W g z w ad H) (hS : va_S (mt_A z) s.heap H locs) (hres : res = .inr (some (.int v))) (hc : cells ≤ mc) (hs : slots ≤ ms) (hdg : decode cc pc = .ok (.ireturn, 1)) : W p l e R s m args below meth c H locs cells slots (mt_E below g z w ad res args s mc ms) (F0 m pc ls [.int v]) :=
  W.widen hc hs (vx_ret (W.iret S.1 S.2.1 hr (fun t ht _ => ⟨_, hres, rfl, by rw [ht]; exact hW, hS.F ht⟩) hS.2.2 hdg hk))
theorem mt_rz {v : Int32} {ty : FieldType} (S : CallFix p m c cc nL s args (w0 :: mt_T) own) (hr : meth.sig.returnType = some ty) (hk : meth.locks = false) (hn : narrow ty (.int v) = .int v) (hW : mt_W g z w ad H) (hS : va_S (mt_A z) s.heap H locs) (hres : res = .inr (some (.int v))) (hc : cells ≤ mc) (hs : slots ≤ ms) (hdg : decode cc pc = .ok (.ireturn, 1)) : W p l e R s m args below meth c H locs cells slots (mt_E below g z w ad res args s mc ms) (F0 m pc ls [.int v]) :=
  W.widen hc hs (vx_ret (W.zret S.1 S.2.1 hr hn (fun t ht _ => ⟨_, hres, rfl, by rw [ht]; exact hW, hS.F ht⟩) hS.2.2 hdg hk))
theorem mt_rv (S : CallFix p m c cc nL s args (w0 :: mt_T) own) (hr : meth.sig.returnType = none) (hk : meth.locks = false) (hW : mt_W g z w ad H) (hS : va_S (mt_A z) s.heap H locs) (hres : res = .inr none) (hc : cells ≤ mc) (hs : slots ≤ ms) (hdg : decode cc pc = .ok (.return_, 1)) : W p l e R s m args below meth c H locs cells slots (mt_E below g z w ad res args s mc ms) (F0 m pc ls []) :=
  W.widen hc hs (vx_ret (W.vret S.1 S.2.1 hr (fun t ht _ => ⟨_, hres, rfl, by rw [ht]; exact hW, hS.F ht⟩) hS.2.2 hdg hk))
theorem mt_ra {v : Value} {C : String} (S : CallFix p m c cc nL s args (w0 :: mt_T) own) (hr : meth.sig.returnType = some (.object C)) (hk : meth.locks = false) (hv : v = .null ∨ ∃ a, v = .ref a) (hW : mt_W g z w ad H) (hS : va_S (mt_A z) s.heap H locs) (hres : res = .inr (some v)) (hc : cells ≤ mc) (hs : slots ≤ ms) (hdg : decode cc pc = .ok (.areturn, 1)) : W p l e R s m args below meth c H locs cells slots (mt_E below g z w ad res args s mc ms) (F0 m pc ls [v]) :=
  W.widen hc hs (vx_ret (W.aret S.1 S.2.1 hr (Or.inl ⟨_, rfl⟩) hv (fun t ht _ => ⟨_, hres, rfl, by rw [ht]; exact hW, hS.F ht⟩) hS.2.2 hdg hk))
theorem mt_rd {v : UInt64} (S : CallFix p m c cc nL s args (w0 :: mt_T) own) (hr : meth.sig.returnType = some .double) (hk : meth.locks = false) (hW : mt_W g z w ad H) (hS : va_S (mt_A z) s.heap H locs) (hres : res = .inr (some (.double v))) (hc : cells ≤ mc) (hs : slots ≤ ms) (hdg : decode cc pc = .ok (.dreturn, 1)) : W p l e R s m args below meth c H locs cells slots (mt_E below g z w ad res args s mc ms) (F0 m pc ls [.double v]) :=
  W.widen hc hs (vx_ret (W.dret S.1 S.2.1 hr (fun t ht _ => ⟨_, hres, rfl, by rw [ht]; exact hW, hS.F ht⟩) hS.2.2 hdg hk))
theorem mt_rf {v : UInt32} (S : CallFix p m c cc nL s args (w0 :: mt_T) own) (hr : meth.sig.returnType = some .float) (hk : meth.locks = false) (hW : mt_W g z w ad H) (hS : va_S (mt_A z) s.heap H locs) (hres : res = .inr (some (.float v))) (hc : cells ≤ mc) (hs : slots ≤ ms) (hdg : decode cc pc = .ok (.freturn, 1)) : W p l e R s m args below meth c H locs cells slots (mt_E below g z w ad res args s mc ms) (F0 m pc ls [.float v]) :=
  W.widen hc hs (vx_ret (W.fret S.1 S.2.1 hr (fun t ht _ => ⟨_, hres, rfl, by rw [ht]; exact hW, hS.F ht⟩) hS.2.2 hdg hk))
/-- a throw goes on to the caller -/
theorem mt_out {E : String} {ce : Cell} {q : Addr} (hout : ∀ x ∈ c.exceptionTable.toList, False) (hk : meth.locks = false) (hW : mt_W g z w ad H) (hS : va_S (mt_A z) s.heap H locs) (hres : res = .inl E) (hcell : H[q]? = some ce) (hv : ce.vm = .none) (hcl : s.vm.findClass E = some ce.cls) (hc : cells ≤ mc) (hs : slots ≤ ms) : vx_W p l e R s m args below meth c H locs cells slots (mt_E below g z w ad res args s mc ms) (F0 m pc ls rest) q :=
  vx_out (fun x hx => (hout x hx).elim) hk hcell hv hcl (fun t ht _ => ⟨hres, by rw [ht]; exact hW, hS.F ht⟩) hS.2.2 hc hs
/-- the same call, of a virtual method: it returns, or throws -/
theorem mt_cV0 {index : Nat} {y : MethodName} {bytes : ByteArray} {maxL : Nat} {ret : Option FieldType} {n fr lo mc1 ms1 : Nat} {b : Addr} {As : List Value} {w1 : mt_w} {ad1 : Nat → Nat} {r1 : mt_R} {ci k : Nat} {fs : List Value} {vc : vw_C}
    (S : CallFix p m c cc nL s args (w0 :: mt_T) own) (P : mt_pV y bytes maxL ret n) (hlink : Cond.methodLink own index y ∈ mt_T) (hM : mt_K l g z y bytes maxL ret fr lo mc1 ms1 (.ref b :: As) w ad r1 w1 ad1) (hC : mt_C g z s) (hW : mt_W g z w ad H) (hS : va_S (mt_A z) s.heap H locs)
    (hb : b = ad k) (hrecv : w k = some (.inr (ci, fs))) (hci : vwCl[ci]? = some vc) (hcl : vc.1 = y.cls) (hn : As.length = n) (hl : ls.size = nL) (hst : st0 = As.reverse ++ .ref b :: rest) (hcat : (rest.map fun v => v.category).sum ≤ 8) (hdg : decode cc pc = .ok (.invokevirtual index, 3)) (hR : fr + 1 ≤ R.frames ∧ 8 + (maxL + 11) + lo ≤ R.locals) (hf : cells + mc1 ≤ R.cells ∧ slots + ms1 ≤ R.slots)
    (kk : ∀ (H1 : Heap) (locs1 : List Loc) (v : Option Value), r1 = .inr v → mt_W g z w1 ad1 H1 → va_S (mt_A z) s.heap H1 locs1 → W p l e R s m args below meth c H1 locs1 (cells + mc1) (slots + ms1) Q (F0 m (pc + 3) ls (v.toList ++ rest)))
    (kx : ∀ (H1 : Heap) (locs1 : List Loc) (E : String) (q : Addr) (ce : Cell), r1 = .inl E → mt_W g z w1 ad1 H1 → va_S (mt_A z) s.heap H1 locs1 → H1[q]? = some ce → ce.vm = .none → s.vm.findClass E = some ce.cls → vx_W p l e R s m args below meth c H1 locs1 (cells + mc1) (slots + ms1) Q (F0 m pc ls rest) q) :
    W p l e R s m args below meth c H locs cells slots Q (F0 m pc ls st0) := by
  subst hst
  obtain ⟨P1, P2, P3, P4, P5, P6, P7⟩ := id P
  have hcw := cwV (R := R) (s := s) (args := args) (own := own) (C := y.cls) (rm := { frames := fr, cells := mc1, slots := ms1, locals := lo }) (mc := mc1) (ms := ms1) n S.2.2.2.2 (mt_inV P hlink) rfl rfl rfl ⟨rfl, P5, P6, P7⟩ hR
  have hrv := va_recv hC.1 (hW.one hrecv) (ci := ci) (q0 := 0) hci rfl
  have hr := vx_runV (rest := rest) (g := F0 m pc ls (As.reverse ++ .ref b :: rest)) (cells := cells) (slots := slots) (locs := locs) (below := below) (meth := meth) (e := e) (H := H) S hM hcw ⟨mt_blind, by rw [hb, ← hcl]; exact hrv, fun U hU hW9 => ⟨rfl, hC.go hS hU hW9, by rw [hU]; exact hW⟩⟩ rfl hn hl rfl (lv_room hcat) hdg hf
  intro T hT X
  rcases hr T hT X with ⟨v, st₀, t, T', L, h0, X', hL, e1, e2, ⟨v', hv1, hv2, hw1, hF⟩, st⟩ | ⟨q, st₀, t, T', L, E, ce, h0, X', hL, e1, e2, ⟨hx1, hw1, hF⟩, hce, hcv, hcl, st⟩
  · obtain ⟨k1, k2, k3⟩ := vx_keep h0 e1 hS (fun _ _ h => h) (fun _ h => h) hL hF
    have hvv : v = v' := by cases hv2; rfl
    subst hvv
    obtain ⟨t2, a1, b1⟩ := kk T'.heap (locs ++ L) v hv1 (by rw [e1]; exact hw1) k3 T' rfl X'
    exact ⟨t2, st t2 a1, b1⟩
  · obtain ⟨k1, k2, k3⟩ := vx_keep h0 e1 hS (fun _ _ h => h) (fun _ h => h) hL hF
    obtain ⟨t2, a1, b1⟩ := kx T'.heap (locs ++ L) E q ce hx1 (by rw [e1]; exact hw1) k3 (by rw [e1]; exact hce) hcv hcl T' rfl X'
    exact ⟨t2, st.trans a1, b1⟩
/-- .. of a static method -/
theorem mt_cS0 {index : Nat} {y : MethodName} {bytes : ByteArray} {maxL : Nat} {ret : Option FieldType} {n fr lo mc1 ms1 : Nat} {As : List Value} {w1 : mt_w} {ad1 : Nat → Nat} {r1 : mt_R}
    (S : CallFix p m c cc nL s args (w0 :: mt_T) own) (P : mt_pS y bytes maxL ret n) (hlink : Cond.methodLink own index y ∈ mt_T) (hM : mt_K l g z y bytes maxL ret fr lo mc1 ms1 As w ad r1 w1 ad1) (hC : mt_C g z s) (hW : mt_W g z w ad H) (hS : va_S (mt_A z) s.heap H locs)
    (hn : As.length = n) (hl : ls.size = nL) (hst : st0 = As.reverse ++ rest) (hcat : (rest.map fun v => v.category).sum ≤ 8) (hdg : decode cc pc = .ok (.invokestatic index, 3)) (hR : fr + 1 ≤ R.frames ∧ 8 + (maxL + 11) + lo ≤ R.locals) (hf : cells + mc1 ≤ R.cells ∧ slots + ms1 ≤ R.slots)
    (kk : ∀ (H1 : Heap) (locs1 : List Loc) (v : Option Value), r1 = .inr v → mt_W g z w1 ad1 H1 → va_S (mt_A z) s.heap H1 locs1 → W p l e R s m args below meth c H1 locs1 (cells + mc1) (slots + ms1) Q (F0 m (pc + 3) ls (v.toList ++ rest)))
    (kx : ∀ (H1 : Heap) (locs1 : List Loc) (E : String) (q : Addr) (ce : Cell), r1 = .inl E → mt_W g z w1 ad1 H1 → va_S (mt_A z) s.heap H1 locs1 → H1[q]? = some ce → ce.vm = .none → s.vm.findClass E = some ce.cls → vx_W p l e R s m args below meth c H1 locs1 (cells + mc1) (slots + ms1) Q (F0 m pc ls rest) q) :
    W p l e R s m args below meth c H locs cells slots Q (F0 m pc ls st0) := by
  subst hst
  obtain ⟨P1, P2, P3, P4, P5, P6⟩ := id P
  have hcw := va_cwS (R := R) (s := s) (args := args) (own := own) (rm := { frames := fr, cells := mc1, slots := ms1, locals := lo }) (mc := mc1) (ms := ms1) n S.2.2.2.2 (mt_inS P hlink) rfl rfl rfl ⟨P4, P5, P6⟩ hR
  have hr := vx_runS (rest := rest) (g := F0 m pc ls (As.reverse ++ rest)) (cells := cells) (slots := slots) (locs := locs) (below := below) (meth := meth) (e := e) (H := H) S hM hcw ⟨mt_blind, fun U hU hW9 => ⟨rfl, hC.go hS hU hW9, by rw [hU]; exact hW⟩⟩ rfl hn hl rfl (lv_room hcat) hdg hf
  intro T hT X
  rcases hr T hT X with ⟨v, st₀, t, T', L, h0, X', hL, e1, e2, ⟨v', hv1, hv2, hw1, hF⟩, st⟩ | ⟨q, st₀, t, T', L, E, ce, h0, X', hL, e1, e2, ⟨hx1, hw1, hF⟩, hce, hcv, hcl, st⟩
  · obtain ⟨k1, k2, k3⟩ := vx_keep h0 e1 hS (fun _ _ h => h) (fun _ h => h) hL hF
    have hvv : v = v' := by cases hv2; rfl
    subst hvv
    obtain ⟨t2, a1, b1⟩ := kk T'.heap (locs ++ L) v hv1 (by rw [e1]; exact hw1) k3 T' rfl X'
    exact ⟨t2, st t2 a1, b1⟩
  · obtain ⟨k1, k2, k3⟩ := vx_keep h0 e1 hS (fun _ _ h => h) (fun _ h => h) hL hF
    obtain ⟨t2, a1, b1⟩ := kx T'.heap (locs ++ L) E q ce hx1 (by rw [e1]; exact hw1) k3 (by rw [e1]; exact hce) hcv hcl T' rfl X'
    exact ⟨t2, st.trans a1, b1⟩
end MTE

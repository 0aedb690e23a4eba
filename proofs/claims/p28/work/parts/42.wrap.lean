section MTL
variable {p : Program} {l : Launch} {e : Env} {R : Room} {s : State} {m : MethodId} {args : Array Value} {below : List Frame} {meth : Method} {c : Code} {H : Heap} {locs : List Loc} {cells slots : Nat} {Q : State → Prop}
variable {cc : ByteArray} {nL pc : Nat} {ls : Array Slot} {rest st0 : List Value} {g : mt_G} {z : Nat} {w w1 : mt_w} {ad ad1 : Nat → Nat} {w0 : Cond} {own : String} {res r1 : mt_R} {mc0 ms0 : Nat} {W' : (Nat → Nat) → mt_w} {CC : (Nat → Nat) → Prop} {r : Int32}
/-- the law's own methods: they catch all, answer a number, and may have made cells -/
def mt_KL (l : Launch) (g : mt_G) (z : Nat) (y : MethodName) (cc : ByteArray) (maxL : Nat) (hh : List (Nat × Nat × Nat × Nat)) (fr lo mc ms : Nat) (av : List Value) (w : mt_w) (ad : Nat → Nat) (r : Int32) (W' : (Nat → Nat) → mt_w) (CC : (Nat → Nat) → Prop) : Prop :=
  Met l y (Cond.codeWith y cc maxL (some .int) hh :: mt_T) ({ frames := fr, cells := mc, slots := ms, locals := lo }) (mt_Pc g z av w ad) (mt_QE g z W' CC (.inr (some (.int r)))) mc ms (mt_A z)
abbrev mt_EL (below : List Frame) (g : mt_G) (z : Nat) (W' : (Nat → Nat) → mt_w) (CC : (Nat → Nat) → Prop) (r : Int32) (args : Array Value) (s : State) (mc ms : Nat) : State → Prop := vx_MQ below (mt_QE g z W' CC (.inr (some (.int r)))) (fun _ _ _ => False) args s mc ms (mt_A z)
theorem mt_ofWL {y : MethodName} {maxL fr lo mc ms : Nat} {hh : List (Nat × Nat × Nat × Nat)} {av : List Value} (hy : plainName y.cls = true) (hlen : (lg_sl av).length ≤ maxL)
    (body : ∀ (p : Program) (e : Env) (s : State) (m : MethodId) (args : Array Value) (below : List Frame) (meth : Method) (c : Code), CallFix p m c cc maxL s args (Cond.codeWith y cc maxL (some .int) hh :: mt_T) y.cls → meth.sig.returnType = some .int → meth.locks = false → c.exceptionTable.toList = tableOf hh → mt_C g z s → mt_W g z w ad s.heap → va_S (mt_A z) s.heap s.heap [] → ∀ ls : Array Slot, lv_has ls maxL (lv_args 0 av) →
      W p l e ({ frames := fr, cells := mc, slots := ms, locals := lo } : Room) s m args below meth c s.heap [] 0 0 (mt_EL below g z W' CC r args s mc ms) (F0 m 0 ls [])) : mt_KL l g z y cc maxL hh fr lo mc ms av w ad r W' CC := by
  have h : vx_Met l y (Cond.codeWith y cc maxL (some .int) hh :: mt_T) ({ frames := fr, cells := mc, slots := ms, locals := lo }) (mt_Pc g z av w ad) (mt_QE g z W' CC (.inr (some (.int r)))) (fun _ _ _ => False) mc ms (mt_A z) := by
    refine vx_ofWH hy rfl ?_
    intro p e s m args below meth c s₁ B hml hv
    obtain ⟨rfl, hC, hW⟩ := hv
    have hl := lv_entry av hlen
    rw [lg_entry_eq]
    have ats := atoms_spec (ws := Cond.codeWith y cc maxL (some .int) hh :: mt_T) B.pre
    exact body p e s m _ below meth c ⟨B.exec, B.bytes, hml, findClass_of_methodNamed B.named, ats⟩ B.returns B.notSynchronized (vx_table (x := y) B (ats _ List.mem_cons_self)) hC hW va_S.rf _ hl
  exact MetFree.mono h (fun _ _ h => h) (fun _ _ _ _ _ h => h) (fun a st o t _ hq => by
    rcases hq with h | ⟨q, -, E, ce, L, h9, -⟩
    · exact h
    · exact h9.elim)
theorem mt_riL {ad1 : Nat → Nat} (S : CallFix p m c cc nL s args (w0 :: mt_T) own) (hr : meth.sig.returnType = some .int) (hk : meth.locks = false) (hCC : CC ad1) (hW : mt_W g z (W' ad1) ad1 H) (hS : va_S (mt_A z) s.heap H locs) {v : Int32} (hres : r = v) (hc : cells ≤ mc0) (hs : slots ≤ ms0) (hdg : decode cc pc = .ok (.ireturn, 1)) : W p l e R s m args below meth c H locs cells slots (mt_EL below g z W' CC r args s mc0 ms0) (F0 m pc ls [.int v]) := by
  subst hres
  exact W.widen hc hs (vx_ret (W.iret S.1 S.2.1 hr (fun t ht _ => ⟨ad1, _, hCC, rfl, rfl, by rw [ht]; exact hW, hS.F ht⟩) hS.2.2 hdg hk))
/-- a call that throws, of which more is to be said here -/
theorem mt_cVx {index : Nat} {y : MethodName} {bytes : ByteArray} {maxL : Nat} {ret : Option FieldType} {n fr lo mc1 ms1 : Nat} {As : List Value} {ci k : Nat} {fs : List Value} {vc : vw_C} {E : String}
    (S : CallFix p m c cc nL s args (w0 :: mt_T) own) (P : mt_pV y bytes maxL ret n) (hlink : Cond.methodLink own index y ∈ mt_T) (hM : mt_K l g z y bytes maxL ret fr lo mc1 ms1 (.ref (ad k) :: As) w ad r1 w1 ad1) (hC : mt_C g z s) (hW : mt_W g z w ad H) (hS : va_S (mt_A z) s.heap H locs)
    (hrecv : w k = some (.inr (ci, fs))) (hci : vwCl[ci]? = some vc) (hcl : vc.1 = y.cls) (hn : As.length = n) (hl : ls.size = nL) (hst : st0 = As.reverse ++ .ref (ad k) :: rest) (hcat : (rest.map fun v => v.category).sum ≤ 8) (hdg : decode cc pc = .ok (.invokevirtual index, 3)) (hR : fr + 1 ≤ R.frames ∧ 8 + (maxL + 11) + lo ≤ R.locals) (hf : cells + mc1 ≤ R.cells ∧ slots + ms1 ≤ R.slots) (hres : r1 = .inl E)
    (kx : ∀ (H1 : Heap) (locs1 : List Loc) (q : Addr) (ce : Cell), mt_W g z w1 ad1 H1 → va_S (mt_A z) s.heap H1 locs1 → H1[q]? = some ce → ce.vm = .none → s.vm.findClass E = some ce.cls → vx_W p l e R s m args below meth c H1 locs1 (cells + mc1) (slots + ms1) Q (F0 m pc ls rest) q) :
    W p l e R s m args below meth c H locs cells slots Q (F0 m pc ls st0) :=
  mt_cV0 S P hlink hM hC hW hS rfl hrecv hci hcl hn hl hst hcat hdg hR hf (fun H1 l1 v9 e => by rw [hres] at e; cases e) (fun H1 l1 E9 q ce e h1 h2 h3 h4 h5 => by rw [hres] at e; cases e; exact kx H1 l1 q ce h1 h2 h3 h4 h5)
/-- a call of what makes cells -/
theorem mt_cVE {index : Nat} {y : MethodName} {bytes : ByteArray} {maxL : Nat} {ret : Option FieldType} {n fr lo mc1 ms1 : Nat} {As : List Value} {ci k : Nat} {fs : List Value} {vc : vw_C}
    (S : CallFix p m c cc nL s args (w0 :: mt_T) own) (P : mt_pV y bytes maxL ret n) (hlink : Cond.methodLink own index y ∈ mt_T) (hM : mt_KE l g z y bytes maxL ret fr lo mc1 ms1 (.ref (ad k) :: As) w ad r1 W' CC) (hC : mt_C g z s) (hW : mt_W g z w ad H) (hS : va_S (mt_A z) s.heap H locs)
    (hrecv : w k = some (.inr (ci, fs))) (hci : vwCl[ci]? = some vc) (hcl : vc.1 = y.cls) (hn : As.length = n) (hl : ls.size = nL) (hst : st0 = As.reverse ++ .ref (ad k) :: rest) (hcat : (rest.map fun v => v.category).sum ≤ 8) (hdg : decode cc pc = .ok (.invokevirtual index, 3)) (hR : fr + 1 ≤ R.frames ∧ 8 + (maxL + 11) + lo ≤ R.locals) (hf : cells + mc1 ≤ R.cells ∧ slots + ms1 ≤ R.slots)
    (kk : ∀ (H1 : Heap) (locs1 : List Loc) (a1 : Nat → Nat) (v : Option Value), r1 = .inr v → CC a1 → mt_W g z (W' a1) a1 H1 → va_S (mt_A z) s.heap H1 locs1 → W p l e R s m args below meth c H1 locs1 (cells + mc1) (slots + ms1) Q (F0 m (pc + 3) ls (v.toList ++ rest)))
    (kx : ∀ (H1 : Heap) (locs1 : List Loc) (a1 : Nat → Nat) (E : String) (q : Addr) (ce : Cell), r1 = .inl E → CC a1 → mt_W g z (W' a1) a1 H1 → va_S (mt_A z) s.heap H1 locs1 → H1[q]? = some ce → ce.vm = .none → s.vm.findClass E = some ce.cls → vx_W p l e R s m args below meth c H1 locs1 (cells + mc1) (slots + ms1) Q (F0 m pc ls rest) q) :
    W p l e R s m args below meth c H locs cells slots Q (F0 m pc ls st0) := by
  subst hst
  obtain ⟨P1, P2, P3, P4, P5, P6, P7⟩ := id P
  have hcw := cwV (R := R) (s := s) (args := args) (own := own) (C := y.cls) (rm := { frames := fr, cells := mc1, slots := ms1, locals := lo }) (mc := mc1) (ms := ms1) n S.2.2.2.2 (mt_inV P hlink) rfl rfl rfl ⟨rfl, P5, P6, P7⟩ hR
  have hrv := va_recv hC.1 (hW.one hrecv) (ci := ci) (q0 := 0) hci rfl
  have hr := vx_runV (rest := rest) (g := F0 m pc ls (As.reverse ++ .ref (ad k) :: rest)) (cells := cells) (slots := slots) (locs := locs) (below := below) (meth := meth) (e := e) (H := H) S hM hcw ⟨mt_blind, by rw [← hcl]; exact hrv, fun U hU hW9 => ⟨rfl, hC.go hS hU hW9, by rw [hU]; exact hW⟩⟩ rfl hn hl rfl (lv_room hcat) hdg hf
  intro T hT X
  rcases hr T hT X with ⟨v, st₀, t, T', L, h0, X', hL, e1, e2, ⟨a1, v', hcc, hv1, hv2, hw1, hF⟩, st⟩ | ⟨q, st₀, t, T', L, E, ce, h0, X', hL, e1, e2, ⟨a1, hcc, hx1, hw1, hF⟩, hce, hcv, hcl, st⟩
  · obtain ⟨k1, k2, k3⟩ := vx_keep h0 e1 hS (fun _ _ h => h) (fun _ h => h) hL hF
    have hvv : v = v' := by cases hv2; rfl
    subst hvv
    obtain ⟨t2, a2, b1⟩ := kk T'.heap (locs ++ L) a1 v hv1 hcc (by rw [e1]; exact hw1) k3 T' rfl X'
    exact ⟨t2, st t2 a2, b1⟩
  · obtain ⟨k1, k2, k3⟩ := vx_keep h0 e1 hS (fun _ _ h => h) (fun _ h => h) hL hF
    obtain ⟨t2, a2, b1⟩ := kx T'.heap (locs ++ L) a1 E q ce hx1 hcc (by rw [e1]; exact hw1) k3 (by rw [e1]; exact hce) hcv hcl T' rfl X'
    exact ⟨t2, st.trans a2, b1⟩
/-- a handler of this method -/
theorem mt_catch {E name : String} {ce : Cell} {q : Addr} {hh : List (Nat × Nat × Nat × Nat)} (S : CallFix p m c cc nL s args (w0 :: mt_T) own) (hT : c.exceptionTable.toList = tableOf hh) (hC : mt_C g z s) (pre : List ExceptionTableEntry) (x : ExceptionTableEntry) (suf : List ExceptionTableEntry) (hsplit : tableOf hh = pre ++ x :: suf)
    (hpass : ∀ z ∈ pre, z.catchType ≠ 0 ∧ ∃ nm : String, Cond.classLink own z.catchType nm ∈ mt_T ∧ (E, nm) ∈ mt_nc) (hx : covers x pc = true) (h0 : x.catchType ≠ 0) (hlink : Cond.classLink own x.catchType name ∈ mt_T) (hcast : Cond.castable E name ∈ mt_bw) (hcell : H[q]? = some ce) (hv : ce.vm = .none) (hcl : s.vm.findClass E = some ce.cls)
    (kk : W p l e R s m args below meth c H locs cells slots Q (F0 m x.handlerPc ls [.ref q])) : vx_W p l e R s m args below meth c H locs cells slots Q (F0 m pc ls rest) q := by
  have mem : ∀ w ∈ mt_T, w.before args s = true := fun w h => S.2.2.2.2 w (List.mem_cons_of_mem _ h)
  refine vx_catch S.2.2.2.1 pre x suf (hT.trans hsplit) (fun z hz => ?_) hx h0 (mem _ hlink) (va_Nw.use (A := args) rfl (hC.2.2.2.2.2.1 _ hcast)) hcell hv hcl kk
  obtain ⟨h1, nm, h2, h3⟩ := hpass z hz
  exact Or.inr ⟨h1, nm, mem _ h2, hC.2.2.2.2.2.2.1 _ h3⟩
end MTL

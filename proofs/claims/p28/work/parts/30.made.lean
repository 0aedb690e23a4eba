section MTI
variable {p : Program} {l : Launch} {e : Env} {R : Room} {s : State} {m : MethodId} {args : Array Value} {below : List Frame} {meth : Method} {c : Code} {H : Heap} {locs : List Loc} {cells slots : Nat} {Q : State → Prop}
variable {cc : ByteArray} {nL pc : Nat} {ls : Array Slot} {rest st0 : List Value} {g : mt_G} {z : Nat} {w : mt_w} {ad : Nat → Nat} {w0 : Cond} {own : String} {res : mt_R} {mc0 ms0 : Nat} {W' : (Nat → Nat) → mt_w} {CC : (Nat → Nat) → Prop}
/-- contracts of what makes cells: where they lie is known by the ids alone -/
def mt_QE (g : mt_G) (z : Nat) (W' : (Nat → Nat) → mt_w) (CC : (Nat → Nat) → Prop) (res : mt_R) : Array Value → State → Outcome → State → Prop := fun _ st o t => ∃ (ad' : Nat → Nat) (v : Option Value), CC ad' ∧ res = .inr v ∧ o = .returned v ∧ mt_W g z (W' ad') ad' t.heap ∧ va_F (mt_A z) st t
def mt_XE (g : mt_G) (z : Nat) (W' : (Nat → Nat) → mt_w) (CC : (Nat → Nat) → Prop) (res : mt_R) : String → State → State → Prop := fun E st t => ∃ ad' : Nat → Nat, CC ad' ∧ res = .inl E ∧ mt_W g z (W' ad') ad' t.heap ∧ va_F (mt_A z) st t
def mt_KE (l : Launch) (g : mt_G) (z : Nat) (y : MethodName) (cc : ByteArray) (maxL : Nat) (ret : Option FieldType) (fr lo mc ms : Nat) (av : List Value) (w : mt_w) (ad : Nat → Nat) (res : mt_R) (W' : (Nat → Nat) → mt_w) (CC : (Nat → Nat) → Prop) : Prop :=
  vx_Met l y (Cond.code y cc maxL ret :: mt_T) ({ frames := fr, cells := mc, slots := ms, locals := lo }) (mt_Pc g z av w ad) (mt_QE g z W' CC res) (mt_XE g z W' CC res) mc ms (mt_A z)
def mt_KI (l : Launch) (g : mt_G) (z : Nat) (y : MethodName) (cc : ByteArray) (maxL : Nat) (fr lo mc ms : Nat) (av : List Value) (w : mt_w) (ad : Nat → Nat) (W' : (Nat → Nat) → mt_w) (CC : (Nat → Nat) → Prop) : Prop :=
  Met l y (Cond.code y cc maxL none :: mt_T) ({ frames := fr, cells := mc, slots := ms, locals := lo }) (mt_Pc g z av w ad) (mt_QE g z W' CC (.inr none)) mc ms (mt_A z)
abbrev mt_EE (below : List Frame) (g : mt_G) (z : Nat) (W' : (Nat → Nat) → mt_w) (CC : (Nat → Nat) → Prop) (res : mt_R) (args : Array Value) (s : State) (mc ms : Nat) : State → Prop := vx_MQ below (mt_QE g z W' CC res) (mt_XE g z W' CC res) args s mc ms (mt_A z)
theorem mt_ofWE {y : MethodName} {maxL fr lo mc ms : Nat} {ret : Option FieldType} {av : List Value} (hy : plainName y.cls = true) (hlen : (lg_sl av).length ≤ maxL)
    (body : ∀ (p : Program) (e : Env) (s : State) (m : MethodId) (args : Array Value) (below : List Frame) (meth : Method) (c : Code), CallFix p m c cc maxL s args (Cond.code y cc maxL ret :: mt_T) y.cls → meth.sig.returnType = ret → meth.locks = false → meth.name = y.name → (∀ x ∈ c.exceptionTable.toList, False) → mt_C g z s → mt_W g z w ad s.heap → va_S (mt_A z) s.heap s.heap [] → ∀ ls : Array Slot, lv_has ls maxL (lv_args 0 av) →
      W p l e ({ frames := fr, cells := mc, slots := ms, locals := lo } : Room) s m args below meth c s.heap [] 0 0 (mt_EE below g z W' CC res args s mc ms) (F0 m 0 ls [])) : mt_KE l g z y cc maxL ret fr lo mc ms av w ad res W' CC := by
  refine vx_ofW hy rfl ?_
  intro p e s m args below meth c s₁ B hml ht hv
  obtain ⟨rfl, hC, hW⟩ := hv
  have hl := lv_entry av hlen
  rw [lg_entry_eq]
  exact body p e s m _ below meth c ⟨B.exec, B.bytes, hml, findClass_of_methodNamed B.named, atoms_spec (ws := Cond.code y cc maxL ret :: mt_T) B.pre⟩ B.returns B.notSynchronized (name_of_methodNamed B.named B.method).1 ht hC hW va_S.rf _ hl
theorem mt_ofWI {y : MethodName} {maxL fr lo mc ms : Nat} {av : List Value} (hy : plainName y.cls = true) (hlen : (lg_sl av).length ≤ maxL)
    (body : ∀ (p : Program) (e : Env) (s : State) (m : MethodId) (args : Array Value) (below : List Frame) (meth : Method) (c : Code), CallFix p m c cc maxL s args (Cond.code y cc maxL none :: mt_T) y.cls → meth.sig.returnType = none → meth.locks = false → meth.name = y.name → mt_C g z s → mt_W g z w ad s.heap → va_S (mt_A z) s.heap s.heap [] → ∀ ls : Array Slot, lv_has ls maxL (lv_args 0 av) →
      W p l e ({ frames := fr, cells := mc, slots := ms, locals := lo } : Room) s m args below meth c s.heap [] 0 0 (MQ below (mt_QE g z W' CC (.inr none)) args s mc ms (mt_A z)) (F0 m 0 ls [])) : mt_KI l g z y cc maxL fr lo mc ms av w ad W' CC := by
  refine Met.ofW hy rfl ?_
  intro p e s m args below meth c s₁ B hml hv
  obtain ⟨rfl, hC, hW⟩ := hv
  have hl := lv_entry av hlen
  rw [lg_entry_eq]
  exact body p e s m _ below meth c ⟨B.exec, B.bytes, hml, findClass_of_methodNamed B.named, atoms_spec (ws := Cond.code y cc maxL none :: mt_T) B.pre⟩ B.returns B.notSynchronized (name_of_methodNamed B.named B.method).1 hC hW va_S.rf _ hl
theorem mt_rvI {ad1 : Nat → Nat} (S : CallFix p m c cc nL s args (w0 :: mt_T) own) (hr : meth.sig.returnType = none) (hk : meth.locks = false) (hCC : CC ad1) (hW : mt_W g z (W' ad1) ad1 H) (hS : va_S (mt_A z) s.heap H locs) (hc : cells ≤ mc0) (hs : slots ≤ ms0) (hdg : decode cc pc = .ok (.return_, 1)) : W p l e R s m args below meth c H locs cells slots (MQ below (mt_QE g z W' CC (.inr none)) args s mc0 ms0 (mt_A z)) (F0 m pc ls []) :=
  W.widen hc hs (W.vret S.1 S.2.1 hr (fun t ht _ => ⟨ad1, _, hCC, rfl, rfl, by rw [ht]; exact hW, hS.F ht⟩) hS.2.2 hdg hk)
theorem mt_riE {v : Int32} {ad1 : Nat → Nat} (S : CallFix p m c cc nL s args (w0 :: mt_T) own) (hr : meth.sig.returnType = some .int) (hk : meth.locks = false) (hCC : CC ad1) (hW : mt_W g z (W' ad1) ad1 H) (hS : va_S (mt_A z) s.heap H locs) (hres : res = .inr (some (.int v))) (hc : cells ≤ mc0) (hs : slots ≤ ms0) (hdg : decode cc pc = .ok (.ireturn, 1)) : W p l e R s m args below meth c H locs cells slots (mt_EE below g z W' CC res args s mc0 ms0) (F0 m pc ls [.int v]) :=
  W.widen hc hs (vx_ret (W.iret S.1 S.2.1 hr (fun t ht _ => ⟨ad1, _, hCC, hres, rfl, by rw [ht]; exact hW, hS.F ht⟩) hS.2.2 hdg hk))
/-- a method whose world's place is known, seen as one that makes cells -/
theorem mt_E_of {below : List Frame} {mc ms : Nat} {ad1 : Nat → Nat} {w1 : mt_w} {jf : JFrame} (hCC : CC ad1) (hw : W' ad1 = w1) (k : W p l e R s m args below meth c H locs cells slots (mt_E below g z w1 ad1 res args s mc ms) jf) : W p l e R s m args below meth c H locs cells slots (mt_EE below g z W' CC res args s mc ms) jf := by
  subst hw
  intro T hT X
  obtain ⟨t, a1, o, b1, b2, b3⟩ := k T hT X
  refine ⟨t, a1, o, b1, b2, ?_⟩
  rcases b3 with ⟨⟨v, h1, h2, h3, h4⟩, h5⟩ | ⟨q, rfl, E, ce, L, ⟨h1, h2, h3⟩, h4⟩
  · exact Or.inl ⟨⟨ad1, v, hCC, h1, h2, h3, h4⟩, h5⟩
  · exact Or.inr ⟨q, rfl, E, ce, L, ⟨ad1, hCC, h1, h2, h3⟩, h4⟩
theorem mt_putF2 {ref C : String} {T : u_T} {N ci index a0 : Nat} (S : CallFix p m c cc nL s args (w0 :: mt_T) own) (hin : ∀ w ∈ u_ws C T N, w ∈ mt_T) (ty0 : Nat → FieldType) (hty : ∀ k, k < N → parseFieldDescriptor (T k).2.2.1 = some (ty0 k)) (hnm : ∀ a, a < N → ∀ b, b < N → a ≠ b → (T a).2.1 ≠ (T b).2.1) (hC : mt_C g z s) (hW : mt_W g z w ad H) (hS : va_S (mt_A z) s.heap H locs) (hin2 : meth.name = "<init>") (k : Nat) (h0 : ad k = a0) {fs : List Value} (he : w k = some (.inr (ci, fs))) (hc : vwCl[ci]? = some (C, T, N)) (j : Nat) (hj : j < N) (hlink : (Cond.fieldLink own index ref (T j).2.1 (T j).2.2.1) ∈ mt_T) (href : ref = (T j).1) (hdecl : (T j).1 = own) (hfin : (T j).2.2.2 = true) {v : Value} (hn : narrow (ty0 j) v = v) (hfit : fits (ty0 j) v = true) (hl : j < fs.length) (hdg : decode cc pc = .ok (.putfield index, 3))
    (kk : ∀ (H1 : Heap) (locs1 : List Loc), mt_W g z (mt_up w k (.inr (ci, fs.set j v))) ad H1 → va_S (mt_A z) s.heap H1 locs1 → W p l e R s m args below meth c H1 locs1 cells slots Q (F0 m (pc + 3) ls rest)) : W p l e R s m args below meth c H locs cells slots Q (F0 m pc ls (v :: .ref a0 :: rest)) := by
  subst h0; exact mt_putF S hin ty0 hty hnm hC hW hS hin2 he hc j hj hlink href hdecl hfin hn hfit hl hdg kk
theorem mt_put2 {ref C : String} {T : u_T} {N ci index a0 : Nat} (S : CallFix p m c cc nL s args (w0 :: mt_T) own) (hin : ∀ w ∈ u_ws C T N, w ∈ mt_T) (ty0 : Nat → FieldType) (hty : ∀ k, k < N → parseFieldDescriptor (T k).2.2.1 = some (ty0 k)) (hnm : ∀ a, a < N → ∀ b, b < N → a ≠ b → (T a).2.1 ≠ (T b).2.1) (hC : mt_C g z s) (hW : mt_W g z w ad H) (hS : va_S (mt_A z) s.heap H locs) (k : Nat) (h0 : ad k = a0) {fs : List Value} (he : w k = some (.inr (ci, fs))) (hc : vwCl[ci]? = some (C, T, N)) (j : Nat) (hj : j < N) (hlink : (Cond.fieldLink own index ref (T j).2.1 (T j).2.2.1) ∈ mt_T) (href : ref = (T j).1) (hfin : (T j).2.2.2 = false) {v : Value} (hn : narrow (ty0 j) v = v) (hfit : fits (ty0 j) v = true) (hl : j < fs.length) (hdg : decode cc pc = .ok (.putfield index, 3))
    (kk : ∀ (H1 : Heap) (locs1 : List Loc), mt_W g z (mt_up w k (.inr (ci, fs.set j v))) ad H1 → va_S (mt_A z) s.heap H1 locs1 → W p l e R s m args below meth c H1 locs1 cells slots Q (F0 m (pc + 3) ls rest)) : W p l e R s m args below meth c H locs cells slots Q (F0 m pc ls (v :: .ref a0 :: rest)) := by
  subst h0; exact mt_put S hin ty0 hty hnm hC hW hS he hc j hj hlink href hfin hn hfit hl hdg kk
theorem mt_get2 {ref C : String} {T : u_T} {N ci index a0 : Nat} (S : CallFix p m c cc nL s args (w0 :: mt_T) own) (hin : ∀ w ∈ u_ws C T N, w ∈ mt_T) (hC : mt_C g z s) (hW : mt_W g z w ad H) (k : Nat) (h0 : ad k = a0) {fs : List Value} (he : w k = some (.inr (ci, fs))) (hc : vwCl[ci]? = some (C, T, N)) (j : Nat) (hj : j < N) (hlink : (Cond.fieldLink own index ref (T j).2.1 (T j).2.2.1) ∈ mt_T) (href : ref = (T j).1) {v : Value} (hv : fs[j]? = some v) (hdg : decode cc pc = .ok (.getfield index, 3))
    (kk : W p l e R s m args below meth c H locs cells slots Q (F0 m (pc + 3) ls (v :: rest))) : W p l e R s m args below meth c H locs cells slots Q (F0 m pc ls (.ref a0 :: rest)) := by
  subst h0; exact mt_get S hin hC hW he hc j hj hlink href hv hdg kk
/-- a constructor called -/
def mt_pI (y : MethodName) (cc : ByteArray) (maxL n : Nat) : Prop := Cond.instanceMethod y ∈ mt_T ∧ Cond.initialized y.cls ∈ mt_T ∧ Cond.code y cc maxL none ∈ mt_T ∧ y.name = "<init>" ∧ y.cls ≠ "java/lang/invoke/MethodHandle" ∧ y.cls ≠ "java/lang/invoke/VarHandle" ∧ (parseMethodDescriptor y.desc).map (fun d => d.parameters.length) = some n
theorem mt_cI {index : Nat} {y : MethodName} {bytes : ByteArray} {maxL n fr lo mc1 ms1 : Nat} {b : Addr} {As : List Value} (S : CallFix p m c cc nL s args (w0 :: mt_T) own) (P : mt_pI y bytes maxL n) (hlink : Cond.methodLink own index y ∈ mt_T) (hM : mt_KI l g z y bytes maxL fr lo mc1 ms1 (.ref b :: As) w ad W' CC) (hC : mt_C g z s) (hW : mt_W g z w ad H) (hS : va_S (mt_A z) s.heap H locs)
    (hn : As.length = n) (hl : ls.size = nL) (hst : st0 = As.reverse ++ .ref b :: rest) (hcat : (rest.map fun v => v.category).sum ≤ 8) (hdg : decode cc pc = .ok (.invokespecial index, 3)) (hR : fr + 1 ≤ R.frames ∧ 8 + (maxL + 11) + lo ≤ R.locals) (hf : cells + mc1 ≤ R.cells ∧ slots + ms1 ≤ R.slots)
    (kk : ∀ (H1 : Heap) (locs1 : List Loc) (ad1 : Nat → Nat), CC ad1 → mt_W g z (W' ad1) ad1 H1 → va_S (mt_A z) s.heap H1 locs1 → W p l e R s m args below meth c H1 locs1 (cells + mc1) (slots + ms1) Q (F0 m (pc + 3) ls rest)) :
    W p l e R s m args below meth c H locs cells slots Q (F0 m pc ls st0) := by
  subst hst
  obtain ⟨P1, P2, P3, P4, P5, P6, P7⟩ := id P
  have mem : ∀ w ∈ mt_T, w.before args s = true := fun w h => S.2.2.2.2 w (List.mem_cons_of_mem _ h)
  have hcb := callB_of (R := R) (rm := { frames := fr, cells := mc1, slots := ms1, locals := lo }) (mc := mc1) (ms := ms1) n S.2.2.2.2 (mt_in (w0 := w0) (ws := Cond.code y bytes maxL none :: mt_T) (fun w hw => (List.mem_cons.mp hw).elim (fun e => by rw [e]; exact P3) id)) rfl rfl rfl (mem _ P2) (mem _ hlink) ⟨P5, P6, P7⟩ hR
  have hr := va_runI (rest := rest) (g := F0 m pc ls (As.reverse ++ .ref b :: rest)) (cells := cells) (slots := slots) (locs := locs) (below := below) (meth := meth) (e := e) (H := H) S hM ⟨hcb, P4, mem _ P1⟩ ⟨mt_blind, fun U hU hW9 => ⟨rfl, hC.go hS hU hW9, by rw [hU]; exact hW⟩⟩ rfl hn hl rfl (lv_room hcat) hdg hf
  intro T hT X
  obtain ⟨v', st₀, t, T', L, h0, X', hL, e1, e2, ⟨ad1, v9, hcc, hv1, hv2, hw1, hF⟩, st⟩ := hr T hT X
  obtain ⟨k1, k2, k3⟩ := vx_keep h0 e1 hS (fun _ _ h => h) (fun _ h => h) hL hF
  cases hv1; cases hv2
  obtain ⟨t2, a1, b1⟩ := kk T'.heap (locs ++ L) ad1 hcc (by rw [e1]; exact hw1) k3 T' rfl X'
  exact ⟨t2, st t2 a1, b1⟩
end MTI

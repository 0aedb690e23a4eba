section MTR
variable {p : Program} {l : Launch} {e : Env} {R : Room} {s : State} {m : MethodId} {args : Array Value} {below : List Frame} {meth : Method} {c : Code} {H : Heap} {locs : List Loc} {cells slots : Nat} {Q : State → Prop}
variable {cc : ByteArray} {nL pc : Nat} {ls : Array Slot} {rest : List Value} {g : mt_G} {z : Nat} {w : mt_w} {ad : Nat → Nat} {w0 : Cond} {own : String}
/-- a field read -/
theorem mt_get {ref C : String} {T : u_T} {N ci index : Nat} (S : CallFix p m c cc nL s args (w0 :: mt_T) own) (hin : ∀ w ∈ u_ws C T N, w ∈ mt_T) (hC : mt_C g z s) (hW : mt_W g z w ad H) {k : Nat} {fs : List Value} (he : w k = some (.inr (ci, fs))) (hc : vwCl[ci]? = some (C, T, N)) (j : Nat) (hj : j < N) (hlink : (Cond.fieldLink own index ref (T j).2.1 (T j).2.2.1) ∈ mt_T) (href : ref = (T j).1) {v : Value} (hv : fs[j]? = some v) (hdg : decode cc pc = .ok (.getfield index, 3))
    (kk : W p l e R s m args below meth c H locs cells slots Q (F0 m (pc + 3) ls (v :: rest))) : W p l e R s m args below meth c H locs cells slots Q (F0 m pc ls (.ref (ad k) :: rest)) := by
  obtain ⟨hx, hb, -, hown, hts⟩ := S
  subst href
  exact va_get hx hb (Ts := w0 :: mt_T) hts (fun x h => List.mem_cons_of_mem _ (hin x h)) hown hC.1 (hW.one he) 0 rfl hc j hj (hts _ (List.mem_cons_of_mem _ hlink)) (fun _ h => h) hv hdg kk
/-- .. of a nest mate -/
theorem mt_getN {ref C host : String} {T : u_T} {N ci index : Nat} (S : CallFix p m c cc nL s args (w0 :: mt_T) own) (hin : ∀ w ∈ u_ws C T N, w ∈ mt_T) (hC : mt_C g z s) (hW : mt_W g z w ad H) {k : Nat} {fs : List Value} (he : w k = some (.inr (ci, fs))) (hc : vwCl[ci]? = some (C, T, N)) (j : Nat) (hj : j < N) (hlink : (Cond.fieldLinkNest own index ref (T j).2.1 (T j).2.2.1 host) ∈ mt_bw) (href : ref = (T j).1) {v : Value} (hv : fs[j]? = some v) (hdg : decode cc pc = .ok (.getfield index, 3))
    (kk : W p l e R s m args below meth c H locs cells slots Q (F0 m (pc + 3) ls (v :: rest))) : W p l e R s m args below meth c H locs cells slots Q (F0 m pc ls (.ref (ad k) :: rest)) := by
  obtain ⟨hx, hb, -, hown, hts⟩ := S
  subst href
  have hl := va_Nw.use (A := args) rfl (hC.2.2.2.2.2.1 _ hlink)
  exact va_getN hx hb (Ts := w0 :: mt_T) hts (fun x h => List.mem_cons_of_mem _ (hin x h)) hown hC.1 (hW.one he) 0 rfl hc j hj hl (fun _ h => h) hv hdg kk
/-- what a store's law needs of the tables -/
theorem mt_fact {C : String} {T : u_T} {N ci : Nat} (S : CallFix p m c cc nL s args (w0 :: mt_T) own) (hin : ∀ w ∈ u_ws C T N, w ∈ mt_T) (ty0 : Nat → FieldType) (hty : ∀ k, k < N → parseFieldDescriptor (T k).2.2.1 = some (ty0 k)) (hnm : ∀ a, a < N → ∀ b, b < N → a ≠ b → (T a).2.1 ≠ (T b).2.1) (hC : mt_C g z s) (hc : vwCl[ci]? = some (C, T, N)) (hW : mt_W g z w ad H) {k : Nat} {fs : List Value} (he : w k = some (.inr (ci, fs))) (j : Nat) (hj : j < N) (hl : j < fs.length) {v : Value} (hd : parseFieldDescriptor (T j).2.2.1 = some (ty0 j)) (hn : narrow (ty0 j) v = v) (hfit : fits (ty0 j) v = true) :
    ∃ (cf : ClassId) (kf : Class) (fi : Nat) (f : Field) (cell : Cell), s.fieldFound? (T j).1 (T j).2.1 (T j).2.2.1 = some (cf, kf, fi, f) ∧ f.isStatic = false ∧ H[ad k]? = some cell ∧ cell.vm = .none ∧ f.slot < cell.slots.size ∧ (u_lay C T j).before args s = true ∧ ClassAt s C cell.cls ∧ ∀ H1 : Heap, H1[ad k]? = some (cell.setSlot f.slot v) → (∀ q : Nat, q ≠ ad k → H1[q]? = H[q]?) → mt_W g z (mt_up w k (.inr (ci, fs.set j v))) ad H1 := by
  obtain ⟨hx, hb, -, hown, hts⟩ := S
  have hap := va_apart (own := own) (args := args) (s := s) (Ts := w0 :: mt_T) hts (fun x h => List.mem_cons_of_mem _ (hin x h)) ty0 hty hnm hC.1 hc
  obtain ⟨⟨r, h1, cell, q1, q2, q3, q4⟩, hz⟩ := hW.1 k _ he
  have hr : r = (C, T, N) := Option.some.inj (h1.symm.trans hc)
  subst hr
  obtain ⟨hS, hfc, kC, hkC, hkind⟩ := hC.1.1 ci _ hc
  obtain ⟨cf, kf, fi, f, hi, hsl⟩ := hS j hj
  have hlay := hts _ (List.mem_cons_of_mem _ (hin _ (u_in_lay hj)))
  have hst := (u_facts hfc hkC (u_lays hts (fun x h => List.mem_cons_of_mem _ (hin x h)) hj) hi).1
  refine ⟨cf, kf, fi, f, cell, hi, hst, q1, q3, by rw [hsl]; exact k2_hasslot (q4 j hj), hlay, by rw [q2]; exact ⟨hfc, kC, hkC, hkind⟩, fun H1 e1 e3 => ?_⟩
  rw [hsl] at e1
  exact hW.set he ⟨_, hc, t_OB.to (V := updV (vp_V fs) j v) ⟨_, e1, q2, q3, t_set q4 hap hj v⟩ (fun i _ => vp_updV_set hl v i)⟩ e3
/-- a field stored -/
theorem mt_put {ref C : String} {T : u_T} {N ci index : Nat} (S : CallFix p m c cc nL s args (w0 :: mt_T) own) (hin : ∀ w ∈ u_ws C T N, w ∈ mt_T) (ty0 : Nat → FieldType) (hty : ∀ k, k < N → parseFieldDescriptor (T k).2.2.1 = some (ty0 k)) (hnm : ∀ a, a < N → ∀ b, b < N → a ≠ b → (T a).2.1 ≠ (T b).2.1) (hC : mt_C g z s) (hW : mt_W g z w ad H) (hS : va_S (mt_A z) s.heap H locs) {k : Nat} {fs : List Value} (he : w k = some (.inr (ci, fs))) (hc : vwCl[ci]? = some (C, T, N)) (j : Nat) (hj : j < N) (hlink : (Cond.fieldLink own index ref (T j).2.1 (T j).2.2.1) ∈ mt_T) (href : ref = (T j).1) (hfin : (T j).2.2.2 = false) {v : Value} (hn : narrow (ty0 j) v = v) (hfit : fits (ty0 j) v = true) (hl : j < fs.length) (hdg : decode cc pc = .ok (.putfield index, 3))
    (kk : ∀ (H1 : Heap) (locs1 : List Loc), mt_W g z (mt_up w k (.inr (ci, fs.set j v))) ad H1 → va_S (mt_A z) s.heap H1 locs1 → W p l e R s m args below meth c H1 locs1 cells slots Q (F0 m (pc + 3) ls rest)) : W p l e R s m args below meth c H locs cells slots Q (F0 m pc ls (v :: .ref (ad k) :: rest)) := by
  obtain ⟨cf, kf, fi, f, cell, hi, hst, q1, q3, q4, hlay, ⟨g1, kC, g2, g3⟩, q5⟩ := mt_fact S hin ty0 hty hnm hC hc hW he j hj hl (hty j hj) hn hfit
  obtain ⟨hx, hb, -, hown, hts⟩ := S
  subst href
  unfold u_lay at hlay
  rw [if_neg (by rw [hfin]; decide)] at hlay
  have h6 := u_store g1 g2 g3 hlay hi (hty j hj) hn hfit
  exact W.putK hx hb (f := f) ⟨hown, hts _ (List.mem_cons_of_mem _ hlink), ⟨_, _, _, hi⟩, hst⟩ h6 q1 q3 q4 rfl rfl hdg fun H' e1 e2 e3 => kk H' _ (q5 H' e1 e3) (hS.put e2 e3 (hW.1 k _ he).2)
/-- .. of a nest mate -/
theorem mt_putN {ref C host : String} {T : u_T} {N ci index : Nat} (S : CallFix p m c cc nL s args (w0 :: mt_T) own) (hin : ∀ w ∈ u_ws C T N, w ∈ mt_T) (ty0 : Nat → FieldType) (hty : ∀ k, k < N → parseFieldDescriptor (T k).2.2.1 = some (ty0 k)) (hnm : ∀ a, a < N → ∀ b, b < N → a ≠ b → (T a).2.1 ≠ (T b).2.1) (hC : mt_C g z s) (hW : mt_W g z w ad H) (hS : va_S (mt_A z) s.heap H locs) {k : Nat} {fs : List Value} (he : w k = some (.inr (ci, fs))) (hc : vwCl[ci]? = some (C, T, N)) (j : Nat) (hj : j < N) (hlink : (Cond.fieldLinkNest own index ref (T j).2.1 (T j).2.2.1 host) ∈ mt_bw) (href : ref = (T j).1) (hfin : (T j).2.2.2 = false) {v : Value} (hn : narrow (ty0 j) v = v) (hfit : fits (ty0 j) v = true) (hl : j < fs.length) (hdg : decode cc pc = .ok (.putfield index, 3))
    (kk : ∀ (H1 : Heap) (locs1 : List Loc), mt_W g z (mt_up w k (.inr (ci, fs.set j v))) ad H1 → va_S (mt_A z) s.heap H1 locs1 → W p l e R s m args below meth c H1 locs1 cells slots Q (F0 m (pc + 3) ls rest)) : W p l e R s m args below meth c H locs cells slots Q (F0 m pc ls (v :: .ref (ad k) :: rest)) := by
  obtain ⟨cf, kf, fi, f, cell, hi, hst, q1, q3, q4, hlay, ⟨g1, kC, g2, g3⟩, q5⟩ := mt_fact S hin ty0 hty hnm hC hc hW he j hj hl (hty j hj) hn hfit
  obtain ⟨hx, hb, -, hown, hts⟩ := S
  subst href
  unfold u_lay at hlay
  rw [if_neg (by rw [hfin]; decide)] at hlay
  have h6 := u_store g1 g2 g3 hlay hi (hty j hj) hn hfit
  have hl9 := va_Nw.use (A := args) rfl (hC.2.2.2.2.2.1 _ hlink)
  exact va_WputK hx hb (f := f) hown hl9 hi hst h6 q1 q3 q4 rfl rfl hdg fun H' e1 e2 e3 => kk H' _ (q5 H' e1 e3) (hS.put e2 e3 (hW.1 k _ he).2)
/-- a final field stored by the constructor -/
theorem mt_putF {ref C : String} {T : u_T} {N ci index : Nat} (S : CallFix p m c cc nL s args (w0 :: mt_T) own) (hin : ∀ w ∈ u_ws C T N, w ∈ mt_T) (ty0 : Nat → FieldType) (hty : ∀ k, k < N → parseFieldDescriptor (T k).2.2.1 = some (ty0 k)) (hnm : ∀ a, a < N → ∀ b, b < N → a ≠ b → (T a).2.1 ≠ (T b).2.1) (hC : mt_C g z s) (hW : mt_W g z w ad H) (hS : va_S (mt_A z) s.heap H locs) (hin2 : meth.name = "<init>") {k : Nat} {fs : List Value} (he : w k = some (.inr (ci, fs))) (hc : vwCl[ci]? = some (C, T, N)) (j : Nat) (hj : j < N) (hlink : (Cond.fieldLink own index ref (T j).2.1 (T j).2.2.1) ∈ mt_T) (href : ref = (T j).1) (hdecl : (T j).1 = own) (hfin : (T j).2.2.2 = true) {v : Value} (hn : narrow (ty0 j) v = v) (hfit : fits (ty0 j) v = true) (hl : j < fs.length) (hdg : decode cc pc = .ok (.putfield index, 3))
    (kk : ∀ (H1 : Heap) (locs1 : List Loc), mt_W g z (mt_up w k (.inr (ci, fs.set j v))) ad H1 → va_S (mt_A z) s.heap H1 locs1 → W p l e R s m args below meth c H1 locs1 cells slots Q (F0 m (pc + 3) ls rest)) : W p l e R s m args below meth c H locs cells slots Q (F0 m pc ls (v :: .ref (ad k) :: rest)) := by
  obtain ⟨cf, kf, fi, f, cell, hi, hst, q1, q3, q4, hlay, ⟨g1, kC, g2, g3⟩, q5⟩ := mt_fact S hin ty0 hty hnm hC hc hW he j hj hl (hty j hj) hn hfit
  obtain ⟨hx, hb, -, hown, hts⟩ := S
  subst href
  unfold u_lay at hlay
  rw [if_pos hfin] at hlay
  have hcf : m.cls = cf := by
    obtain ⟨_, _, c', _, _, _, -, -, hf', -, -, -, hown2, -⟩ := Cond.laysFinal_spec hlay
    have e1 : c' = cf := by have := hi.symm.trans hf'; simp at this; exact this.1.symm
    rw [hdecl] at hown2
    rw [← e1]; exact Option.some.inj (hown.symm.trans hown2)
  have h6 := u_fits g1 g2 g3 (Or.inr hlay) hi (hty j hj) hn hfit
  exact W.putFinK hx hb hown (hts _ (List.mem_cons_of_mem _ hlink)) hi hst hcf hin2 h6 q1 q3 q4 rfl rfl hdg fun H' e1 e2 e3 => kk H' _ (q5 H' e1 e3) (hS.put e2 e3 (hW.1 k _ he).2)
/-- arrays read -/
theorem mt_iald (S : CallFix p m c cc nL s args (w0 :: mt_T) own) (hC : mt_C g z s) (hW : mt_W g z w ad H) {k n : Nat} {f : Nat → Int32} (he : w k = some (.inl (g.2 0, n, .inl f))) {i : Int32} (hin : vp_in i n) (hdg : decode cc pc = .ok (.iaload, 1))
    (kk : W p l e R s m args below meth c H locs cells slots Q (F0 m (pc + 1) ls (.int (f i.toNatClampNeg) :: rest))) : W p l e R s m args below meth c H locs cells slots Q (F0 m pc ls (.int i :: .ref (ad k) :: rest)) :=
  va_iald S.1 S.2.1 hC.1 (hW.one he) 0 0 rfl rfl hin hdg kk
theorem mt_zald (S : CallFix p m c cc nL s args (w0 :: mt_T) own) (hC : mt_C g z s) (hW : mt_W g z w ad H) {k n : Nat} {f : Nat → Int32} (he : w k = some (.inl (g.2 1, n, .inl f))) {i : Int32} (hin : vp_in i n) (hdg : decode cc pc = .ok (.baload, 1))
    (kk : W p l e R s m args below meth c H locs cells slots Q (F0 m (pc + 1) ls (.int (f i.toNatClampNeg) :: rest))) : W p l e R s m args below meth c H locs cells slots Q (F0 m pc ls (.int i :: .ref (ad k) :: rest)) :=
  va_zald S.1 S.2.1 hC.1 (hW.one he) 0 1 rfl rfl hin hdg kk
theorem mt_aald (S : CallFix p m c cc nL s args (w0 :: mt_T) own) (hC : mt_C g z s) (hW : mt_W g z w ad H) (t : Nat) {C : String} (ht : (mt_tys g)[t]? = some (g.2 t, .object C)) {k n : Nat} {f : Nat → Option Nat} (he : w k = some (.inl (g.2 t, n, .inr (.inr (.inr (.inr f)))))) {i : Int32} (hin : vp_in i n) (hdg : decode cc pc = .ok (.aaload, 1))
    (kk : W p l e R s m args below meth c H locs cells slots Q (F0 m (pc + 1) ls (va_rf (f i.toNatClampNeg) :: rest))) : W p l e R s m args below meth c H locs cells slots Q (F0 m pc ls (.int i :: .ref (ad k) :: rest)) :=
  va_aldq S.1 S.2.1 hC.1 (hW.one he) 0 t rfl ht hin hdg kk
theorem mt_lald (S : CallFix p m c cc nL s args (w0 :: mt_T) own) (hC : mt_C g z s) (hW : mt_W g z w ad H) {k n : Nat} {f : Nat → Int64} (he : w k = some (.inl (g.2 5, n, .inr (.inl f)))) {i : Int32} (hin : vp_in i n) (hdg : decode cc pc = .ok (.laload, 1))
    (kk : W p l e R s m args below meth c H locs cells slots Q (F0 m (pc + 1) ls (.long (f i.toNatClampNeg) :: rest))) : W p l e R s m args below meth c H locs cells slots Q (F0 m pc ls (.int i :: .ref (ad k) :: rest)) :=
  va_lald S.1 S.2.1 hC.1 (hW.one he) 0 5 rfl rfl hin hdg kk
theorem mt_dald (S : CallFix p m c cc nL s args (w0 :: mt_T) own) (hC : mt_C g z s) (hW : mt_W g z w ad H) {k n : Nat} {f : Nat → UInt64} (he : w k = some (.inl (g.2 6, n, .inr (.inr (.inr (.inl f)))))) {i : Int32} (hin : vp_in i n) (hdg : decode cc pc = .ok (.daload, 1))
    (kk : W p l e R s m args below meth c H locs cells slots Q (F0 m (pc + 1) ls (.double (f i.toNatClampNeg) :: rest))) : W p l e R s m args below meth c H locs cells slots Q (F0 m pc ls (.int i :: .ref (ad k) :: rest)) :=
  va_dald S.1 S.2.1 hC.1 (hW.one he) 0 6 rfl rfl hin hdg kk
theorem mt_alen (S : CallFix p m c cc nL s args (w0 :: mt_T) own) (hC : mt_C g z s) (hW : mt_W g z w ad H) (t : Nat) {ty : FieldType} (ht : (mt_tys g)[t]? = some (g.2 t, ty)) {k : Nat} {x : vp_A} (he : w k = some (.inl (g.2 t, x))) {v : Int32} (hv : Int32.ofNat x.1 = v) (hdg : decode cc pc = .ok (.arraylength, 1))
    (kk : W p l e R s m args below meth c H locs cells slots Q (F0 m (pc + 1) ls (.int v :: rest))) : W p l e R s m args below meth c H locs cells slots Q (F0 m pc ls (.ref (ad k) :: rest)) :=
  va_alen S.1 S.2.1 hC.1 (hW.one he) 0 t rfl ht hv hdg kk
/-- arrays stored -/
theorem mt_iast (S : CallFix p m c cc nL s args (w0 :: mt_T) own) (hC : mt_C g z s) (hW : mt_W g z w ad H) (hS : va_S (mt_A z) s.heap H locs) {k n : Nat} {f : Nat → Int32} (he : w k = some (.inl (g.2 0, n, .inl f))) {i x : Int32} (hin : vp_in i n) (hdg : decode cc pc = .ok (.iastore, 1))
    (kk : ∀ (H1 : Heap) (locs1 : List Loc), mt_W g z (mt_up w k (.inl (g.2 0, n, .inl (upd f i.toNatClampNeg x)))) ad H1 → va_S (mt_A z) s.heap H1 locs1 → W p l e R s m args below meth c H1 locs1 cells slots Q (F0 m (pc + 1) ls rest)) : W p l e R s m args below meth c H locs cells slots Q (F0 m pc ls (.int x :: .int i :: .ref (ad k) :: rest)) := by
  refine W.iast S.1 S.2.1 (hW.1 k _ he).1 ((hC.1.2 0 (g.2 0, .int) rfl).1 n (fun j => .int (f j))) (fun q => by cases q) (by show ¬ (i < 0 ∨ (arrV _ _ _).slots.size ≤ _); rw [arrV_size]; exact hin) rfl rfl hdg fun H1 e z1 oq => ?_
  refine kk H1 _ (hW.set he ?_ oq) (hS.put z1 oq (hW.1 k _ he).2)
  show H1[ad k]? = some (vp_cell _ _)
  rw [e]
  rw [vp_cell_i, vp_cell_i, arrV_store]
  congr 2
  funext q
  by_cases hq : q = i.toNatClampNeg
  · subst hq
    simp [updV, upd]
  · simp [updV, upd, hq]
theorem mt_zast (S : CallFix p m c cc nL s args (w0 :: mt_T) own) (hC : mt_C g z s) (hW : mt_W g z w ad H) (hS : va_S (mt_A z) s.heap H locs) {k n : Nat} {f : Nat → Int32} (he : w k = some (.inl (g.2 1, n, .inl f))) {i x : Int32} (hin : vp_in i n) (hnx : narrow .boolean (.int x) = .int x) (hdg : decode cc pc = .ok (.bastore, 1))
    (kk : ∀ (H1 : Heap) (locs1 : List Loc), mt_W g z (mt_up w k (.inl (g.2 1, n, .inl (upd f i.toNatClampNeg x)))) ad H1 → va_S (mt_A z) s.heap H1 locs1 → W p l e R s m args below meth c H1 locs1 cells slots Q (F0 m (pc + 1) ls rest)) : W p l e R s m args below meth c H locs cells slots Q (F0 m pc ls (.int x :: .int i :: .ref (ad k) :: rest)) := by
  refine W.zast S.1 S.2.1 (hW.1 k _ he).1 ((hC.1.2 1 (g.2 1, .boolean) rfl).1 n (fun j => .int (f j))) (fun q => by cases q) (by show ¬ (i < 0 ∨ (arrV _ _ _).slots.size ≤ _); rw [arrV_size]; exact hin) rfl rfl hdg fun H1 e z1 oq => ?_
  refine kk H1 _ (hW.set he ?_ oq) (hS.put z1 oq (hW.1 k _ he).2)
  show H1[ad k]? = some (vp_cell _ _)
  rw [e]
  rw [vp_cell_i, vp_cell_i, arrV_store]
  congr 2
  funext q
  by_cases hq : q = i.toNatClampNeg
  · subst hq
    simp [updV, upd, hnx]
  · simp [updV, upd, hq]
theorem mt_last (S : CallFix p m c cc nL s args (w0 :: mt_T) own) (hC : mt_C g z s) (hW : mt_W g z w ad H) (hS : va_S (mt_A z) s.heap H locs) {k n : Nat} {f : Nat → Int64} (he : w k = some (.inl (g.2 5, n, .inr (.inl f)))) {i : Int32} {x : Int64} (hin : vp_in i n) (hdg : decode cc pc = .ok (.lastore, 1))
    (kk : ∀ (H1 : Heap) (locs1 : List Loc), mt_W g z (mt_up w k (.inl (g.2 5, n, .inr (.inl (vp_updL f i.toNatClampNeg x))))) ad H1 → va_S (mt_A z) s.heap H1 locs1 → W p l e R s m args below meth c H1 locs1 cells slots Q (F0 m (pc + 1) ls rest)) : W p l e R s m args below meth c H locs cells slots Q (F0 m pc ls (.long x :: .int i :: .ref (ad k) :: rest)) := by
  refine W.last S.1 S.2.1 (hW.1 k _ he).1 ((hC.1.2 5 (g.2 5, .long) rfl).1 n (fun j => .long (f j))) (fun q => by cases q) (by show ¬ (i < 0 ∨ (arrV _ _ _).slots.size ≤ _); rw [arrV_size]; exact hin) rfl rfl hdg fun H1 e z1 oq => ?_
  refine kk H1 _ (hW.set he ?_ oq) (hS.put z1 oq (hW.1 k _ he).2)
  show H1[ad k]? = some (vp_cell _ _)
  rw [e]
  rw [vp_cell_l, vp_cell_l, arrV_store]
  congr 2
  funext q
  by_cases hq : q = i.toNatClampNeg
  · subst hq
    simp [updV, vp_updL]
  · simp [updV, vp_updL, hq]
theorem mt_dast (S : CallFix p m c cc nL s args (w0 :: mt_T) own) (hC : mt_C g z s) (hW : mt_W g z w ad H) (hS : va_S (mt_A z) s.heap H locs) {k n : Nat} {f : Nat → UInt64} (he : w k = some (.inl (g.2 6, n, .inr (.inr (.inr (.inl f)))))) {i : Int32} {x : UInt64} (hin : vp_in i n) (hdg : decode cc pc = .ok (.dastore, 1))
    (kk : ∀ (H1 : Heap) (locs1 : List Loc), mt_W g z (mt_up w k (.inl (g.2 6, n, .inr (.inr (.inr (.inl (va_up f i.toNatClampNeg x))))))) ad H1 → va_S (mt_A z) s.heap H1 locs1 → W p l e R s m args below meth c H1 locs1 cells slots Q (F0 m (pc + 1) ls rest)) : W p l e R s m args below meth c H locs cells slots Q (F0 m pc ls (.double x :: .int i :: .ref (ad k) :: rest)) := by
  refine W.dast S.1 S.2.1 (hW.1 k _ he).1 ((hC.1.2 6 (g.2 6, .double) rfl).1 n (fun j => .double (f j))) (fun q => by cases q) (by show ¬ (i < 0 ∨ (arrV _ _ _).slots.size ≤ _); rw [arrV_size]; exact hin) rfl rfl hdg fun H1 e z1 oq => ?_
  refine kk H1 _ (hW.set he ?_ oq) (hS.put z1 oq (hW.1 k _ he).2)
  show H1[ad k]? = some (vp_cell _ _)
  rw [e]
  rw [vp_cell_d, vp_cell_d, arrV_store]
  congr 2
  funext q
  by_cases hq : q = i.toNatClampNeg
  · subst hq
    simp [updV, va_up]
  · simp [updV, va_up, hq]
theorem mt_aast (S : CallFix p m c cc nL s args (w0 :: mt_T) own) (hC : mt_C g z s) (hW : mt_W g z w ad H) (hS : va_S (mt_A z) s.heap H locs) (t ci : Nat) {r : vw_C} (ht : (mt_tys g)[t]? = some (g.2 t, .object r.1)) (hc : vwCl[ci]? = some r) {k k2 n : Nat} {f : Nat → Option Nat} {vs : List Value} (he : w k = some (.inl (g.2 t, n, .inr (.inr (.inr (.inr f)))))) (hv : w k2 = some (.inr (ci, vs))) {i : Int32} (hin : vp_in i n) (hdg : decode cc pc = .ok (.aastore, 1))
    (kk : ∀ (H1 : Heap) (locs1 : List Loc), mt_W g z (mt_up w k (.inl (g.2 t, n, .inr (.inr (.inr (.inr (va_up f i.toNatClampNeg (some (ad k2)))))))))  ad H1 → va_S (mt_A z) s.heap H1 locs1 → W p l e R s m args below meth c H1 locs1 cells slots Q (F0 m (pc + 1) ls rest)) : W p l e R s m args below meth c H locs cells slots Q (F0 m pc ls (.ref (ad k2) :: .int i :: .ref (ad k) :: rest)) := by
  have hlt : i.toNatClampNeg < n := Nat.not_le.mp fun q => hin (Or.inr q)
  have h0 : ¬ i < 0 := fun q => hin (Or.inl q)
  obtain ⟨⟨r', hr', cellV, g1, g2, g3, -⟩, -⟩ := hW.1 k2 _ hv
  have hcls := (hC.1.1 ci r hc).2
  obtain ⟨kA, comp, k1, k2', k3, -⟩ := (hC.1.2 t _ ht).2
  have hcomp : comp = g.1.1 ci := Option.some.inj (k3.symm.trans hcls.1)
  subst hcomp
  obtain ⟨kC, hkC, -⟩ := hcls.2
  refine W.aast S.1 S.2.1 (hW.1 k _ he).1 (fun q h => by cases h) (fun h => by cases h) k1 k2' rfl hkC ⟨h0, by show _ < (arrV _ _ _).slots.size; rw [arrV_size]; exact hlt⟩ g1 (fun q h => by rw [g3] at h; cases h) (by rw [g2]; exact hkC) (by rw [g2]; exact va_assign hcls) rfl rfl hdg fun H1 e z1 oq => ?_
  refine kk H1 _ (hW.set he ?_ oq) (hS.put z1 oq (hW.1 k _ he).2)
  show H1[ad k]? = some (vp_cell _ _)
  rw [e]
  rw [vp_cell_q, vp_cell_q, arrV_store]
  congr 2
  funext q
  by_cases hq : q = i.toNatClampNeg
  · subst hq
    simp [updV, va_up, va_rf]
  · simp [updV, va_up, hq]
/-- what is made -/
theorem mt_newa (S : CallFix p m c cc nL s args (w0 :: mt_T) own) (hC : mt_C g z s) (hW : mt_W g z w ad H) (hS : va_S (mt_A z) s.heap H locs) (t : Nat) {atype : ArrayType} {ty : FieldType} (hty : newarray.typeOf atype = ty) (harr : (Cond.arrayClass ty) ∈ mt_T) (ht : (mt_tys g)[t]? = some (g.2 t, ty)) (hna : ∀ C, ty ≠ .object C) (k : Nat) (hk : w k = none) {n : Int32} {N' : Nat} {a0 : vp_A} (ha : ∀ cA : ClassId, vp_cell cA a0 = arrV cA N' (fun _ => defaultValue ty)) (hn : ¬ n < 0) (hN : n.toNatClampNeg = N') (hbytes : N' * componentBytes ty ≤ 536870912) (hcells : cells + 1 ≤ R.cells) (hslots : slots + N' ≤ R.slots) (hdg : decode cc pc = .ok (.newarray atype, 2))
    (kk : ∀ (q : Nat) (H1 : Heap), mt_W g z (mt_up w k (.inl (g.2 t, a0))) (mt_ua ad k q) H1 → va_S (mt_A z) s.heap H1 locs → W p l e R s m args below meth c H1 locs (cells + 1) (slots + N') Q (F0 m (pc + 2) ls (.ref q :: rest))) : W p l e R s m args below meth c H locs cells slots Q (F0 m pc ls (.int n :: rest)) := by
  obtain ⟨hx, hb, -, hown, hts⟩ := S
  subst hty
  have hzH : z ≤ H.size := Nat.le_trans hC.2.1 hS.1
  refine va_newaK hx hb (hts _ (List.mem_cons_of_mem _ harr)) rfl hdg rfl hn hN hbytes hcells hslots rfl fun H1 cA e1 z1 o1 hAr hNm => ?_
  have hcA : cA = g.2 t := by
    have h9 := (hC.1.2 t _ ht).2
    have h8 : s.vm.findClass ("[" ++ (newarray.typeOf atype).toString) = some (g.2 t) := by
      cases atype <;> exact h9
    exact Option.some.inj (hNm.symm.trans h8)
  subst hcA
  refine kk H.size H1 (hW.add hk hzH ?_ o1) ⟨Nat.le_trans hS.1 (by omega), fun x h1 h2 => (o1 x (Nat.lt_of_lt_of_le h1 hS.1)).trans (hS.2.1 x h1 h2), hS.2.2⟩
  show H1[H.size]? = some (vp_cell _ _)
  rw [ha]
  exact e1
theorem mt_newq (S : CallFix p m c cc nL s args (w0 :: mt_T) own) (hC : mt_C g z s) (hW : mt_W g z w ad H) (hS : va_S (mt_A z) s.heap H locs) (t : Nat) {C : String} {index : Nat} (hclink : (Cond.classLink own index C) ∈ mt_T) (hover : (Cond.arrayOver (.object C)) ∈ mt_T) (ht : (mt_tys g)[t]? = some (g.2 t, .object C)) (k : Nat) (hk : w k = none) {n : Int32} {N' : Nat} (hn : ¬ n < 0) (hN : n.toNatClampNeg = N') (hbytes : N' * 4 ≤ 536870912) (hcells : cells + 1 ≤ R.cells) (hslots : slots + N' ≤ R.slots) (hdg : decode cc pc = .ok (.anewarray index, 3))
    (kk : ∀ (q : Nat) (H1 : Heap), mt_W g z (mt_up w k (.inl (g.2 t, N', .inr (.inr (.inr (.inr (fun _ => none))))))) (mt_ua ad k q) H1 → va_S (mt_A z) s.heap H1 locs → W p l e R s m args below meth c H1 locs (cells + 1) (slots + N') Q (F0 m (pc + 3) ls (.ref q :: rest))) : W p l e R s m args below meth c H locs cells slots Q (F0 m pc ls (.int n :: rest)) := by
  obtain ⟨hx, hb, -, hown, hts⟩ := S
  subst hN
  have hzH : z ≤ H.size := Nat.le_trans hC.2.1 hS.1
  refine W.anew hx hb hown (hts _ (List.mem_cons_of_mem _ hclink)) (hts _ (List.mem_cons_of_mem _ hover)) rfl hdg rfl hn hbytes hcells hslots fun cA kA comp f1 f2 f3 f4 => ?_
  generalize hH1 : H.push ({ cls := cA, slots := Array.replicate n.toNatClampNeg .null, vm := .none } : Cell) = H1
  have z1 : H1.size = H.size + 1 := by rw [← hH1, Array.size_push]
  have e1 : H1[H.size]? = some (arrV cA n.toNatClampNeg (fun _ => .null)) := by rw [← hH1, Array.getElem?_push_size, ← arrV_new]
  have o1 : ∀ q : Nat, q < H.size → H1[q]? = H[q]? := fun q hq => by rw [← hH1, Array.getElem?_push, if_neg (Nat.ne_of_lt hq)]
  have hcA : cA = g.2 t := by
    obtain ⟨kA9, comp9, -, -, -, h9⟩ := (hC.1.2 t _ ht).2
    exact Option.some.inj (f1.symm.trans h9)
  subst hcA
  refine kk H.size H1 (hW.add hk hzH ?_ o1) ⟨Nat.le_trans hS.1 (by omega), fun x h1 h2 => (o1 x (Nat.lt_of_lt_of_le h1 hS.1)).trans (hS.2.1 x h1 h2), hS.2.2⟩
  show H1[H.size]? = some (vp_cell _ _)
  rw [vp_cell_q]
  exact e1
theorem mt_new {C : String} {T : u_T} {N ci index : Nat} (S : CallFix p m c cc nL s args (w0 :: mt_T) own) (hin : ∀ w ∈ u_ws C T N, w ∈ mt_T) (ty : Nat → FieldType) (hty : ∀ k, k < N → parseFieldDescriptor (T k).2.2.1 = some (ty k)) (hC : mt_C g z s) (hW : mt_W g z w ad H) (hS : va_S (mt_A z) s.heap H locs) (hcl : (Cond.classLink own index C) ∈ mt_T) (hinst : (Cond.instantiable C N) ∈ mt_T) (hini : (Cond.initialized C) ∈ mt_T) (hc : vwCl[ci]? = some (C, T, N)) (k : Nat) (hk : w k = none) {fs : List Value} (hfs : ∀ j, j < N → defaultValue (ty j) = vp_V fs j) (hcells : cells + 1 ≤ R.cells) (hslots : slots + N ≤ R.slots) (hdg : decode cc pc = .ok (.new index, 3))
    (kk : ∀ (q : Nat) (H1 : Heap), mt_W g z (mt_up w k (.inr (ci, fs))) (mt_ua ad k q) H1 → va_S (mt_A z) s.heap H1 locs → W p l e R s m args below meth c H1 locs (cells + 1) (slots + N) Q (F0 m (pc + 3) ls (.ref q :: rest))) : W p l e R s m args below meth c H locs cells slots Q (F0 m pc ls rest) := by
  obtain ⟨hx, hb, -, hown, hts⟩ := S
  have hzH : z ≤ H.size := Nat.le_trans hC.2.1 hS.1
  have hKn := hC.1.1 ci _ hc
  refine W.newcK hx hb hown (hts _ (List.mem_cons_of_mem _ hcl)) (hts _ (List.mem_cons_of_mem _ hinst)) (hts _ (List.mem_cons_of_mem _ hini)) rfl hdg hcells hslots hKn.2.1 rfl fun H1 kC hkC e1 z1 o1 => ?_
  refine kk H.size H1 (hW.add hk hzH ?_ o1) ⟨Nat.le_trans hS.1 (by omega), fun x h1 h2 => (o1 x (Nat.lt_of_lt_of_le h1 hS.1)).trans (hS.2.1 x h1 h2), hS.2.2⟩
  exact ⟨_, hc, (u_born ty (ws := w0 :: mt_T) hts (fun x h => List.mem_cons_of_mem _ (hin x h)) hKn hkC e1 hty).to hfs⟩
theorem mt_objInit (S : CallFix p m c cc nL s args (w0 :: mt_T) own) {idx q : Nat} (h1 : (Cond.methodLink own idx objectInit) ∈ mt_T) (h2 : (Cond.instanceMethod objectInit) ∈ mt_T) (h3 : (Cond.code objectInit ⟨#[0xb1]⟩ 1 none) ∈ mt_T) (hl : ls.size = nL) (hcat : (rest.map fun v => v.category).sum ≤ 8) (hdg : decode cc pc = .ok (.invokespecial idx, 3)) (hR : 1 ≤ R.frames ∧ 20 ≤ R.locals)
    (kk : W p l e R s m args below meth c H locs cells slots Q (F0 m (pc + 3) ls rest)) : W p l e R s m args below meth c H locs cells slots Q (F0 m pc ls (.ref q :: rest)) := by
  obtain ⟨hx, hb, hml, hown, hts⟩ := S
  refine W.objInit hx hb hown (hts _ (List.mem_cons_of_mem _ h1)) (hts _ (List.mem_cons_of_mem _ h2)) (hts _ (List.mem_cons_of_mem _ h3)) rfl (hl.trans hml.symm) rfl hdg hR.1 ?_ kk
  show 0 + (rest.map fun v => v.category).sum + 12 ≤ R.locals
  omega
end MTR

section MTV
variable {p : Program} {l : Launch} {e : Env} {R : Room} {s : State} {m : MethodId} {args : Array Value} {below : List Frame} {meth : Method} {c : Code} {H : Heap} {locs : List Loc} {cells slots : Nat} {Q : State → Prop}
variable {cc : ByteArray} {nL pc : Nat} {ls : Array Slot} {rest st0 : List Value} {g : mt_G} {z : Nat} {w w1 w' : mt_w} {ad ad1 ad' : Nat → Nat} {w0 : Cond} {own : String} {res : mt_R} {mc0 ms0 : Nat}
variable {lc mc bc : Nat} {N G : Nat → Nat → Int32} {o : Nat → Int64} {d : mt_D}
theorem mt_te {x y : Int32} (h : x = y) (k : W p l e R s m args below meth c H locs cells slots Q (F0 m pc ls (.int y :: rest))) : W p l e R s m args below meth c H locs cells slots Q (F0 m pc ls (.int x :: rest)) := by subst h; exact k
theorem mt_tev {x y : Value} (h : x = y) (k : W p l e R s m args below meth c H locs cells slots Q (F0 m pc ls (y :: rest))) : W p l e R s m args below meth c H locs cells slots Q (F0 m pc ls (x :: rest)) := by subst h; exact k
theorem vin {x : Int32} {n : Nat} (h1 : ¬ x < 0) (h2 : ¬ nI n ≤ x) (hn : n < 2 ^ 31 := by decide) : vp_in x n := by
  obtain ⟨j, hj, rfl⟩ := nI_of h1
  refine vp_in_nI ?_ hn
  rcases Nat.lt_or_ge j n with h | h
  · exact h
  · exact absurd (nI_le h hj) h2
theorem vin' {x : Int32} {n : Nat} (h1 : ¬ x < 0) (h2 : x < nI n) (hn : n < 2 ^ 31 := by decide) : vp_in x n := by
  obtain ⟨j, hj, rfl⟩ := nI_of h1
  exact vp_in_nI ((nI_ltI hj hn).mp h2) hn
theorem vin_lt {x : Int32} {n : Nat} (h : vp_in x n) : x.toNatClampNeg < n := Nat.not_le.mp fun q => h (Or.inr q)
theorem wk_iald {k n : Nat} (S : CallFix p m c cc nL s args (w0 :: mt_T) own) (hC : mt_C g z s) (hW : mt_W g z (mt_wc g ad lc mc bc N G o d) ad H) (ha : mt_arr g lc bc N k = some (g.2 0, n)) {i : Int32} (hin : vp_in i n) (hdg : decode cc pc = .ok (.iaload, 1))
    (kk : W p l e R s m args below meth c H locs cells slots Q (F0 m (pc + 1) ls (.int (G k i.toNatClampNeg) :: rest))) : W p l e R s m args below meth c H locs cells slots Q (F0 m pc ls (.int i :: .ref (ad k) :: rest)) := mt_iald S hC hW (wc_arr ha) hin hdg kk
theorem wk_zald {k n : Nat} (S : CallFix p m c cc nL s args (w0 :: mt_T) own) (hC : mt_C g z s) (hW : mt_W g z (mt_wc g ad lc mc bc N G o d) ad H) (ha : mt_arr g lc bc N k = some (g.2 1, n)) {i : Int32} (hin : vp_in i n) (hdg : decode cc pc = .ok (.baload, 1))
    (kk : W p l e R s m args below meth c H locs cells slots Q (F0 m (pc + 1) ls (.int (G k i.toNatClampNeg) :: rest))) : W p l e R s m args below meth c H locs cells slots Q (F0 m pc ls (.int i :: .ref (ad k) :: rest)) := mt_zald S hC hW (wc_arr ha) hin hdg kk
theorem wk_ialn {k n : Nat} (S : CallFix p m c cc nL s args (w0 :: mt_T) own) (hC : mt_C g z s) (hW : mt_W g z (mt_wc g ad lc mc bc N G o d) ad H) (ha : mt_arr g lc bc N k = some (g.2 0, n)) {i : Int32} (j : Nat) (hij : i = nI j) (hj : j < n) (hn : n < 2 ^ 31) (hdg : decode cc pc = .ok (.iaload, 1))
    (kk : W p l e R s m args below meth c H locs cells slots Q (F0 m (pc + 1) ls (.int (G k j) :: rest))) : W p l e R s m args below meth c H locs cells slots Q (F0 m pc ls (.int i :: .ref (ad k) :: rest)) := by
  subst hij
  refine wk_iald S hC hW ha (vp_in_nI hj hn) hdg ?_
  rw [nI_clamp (Nat.lt_trans hj hn)]; exact kk
theorem wk_zaln {k n : Nat} (S : CallFix p m c cc nL s args (w0 :: mt_T) own) (hC : mt_C g z s) (hW : mt_W g z (mt_wc g ad lc mc bc N G o d) ad H) (ha : mt_arr g lc bc N k = some (g.2 1, n)) {i : Int32} (j : Nat) (hij : i = nI j) (hj : j < n) (hn : n < 2 ^ 31) (hdg : decode cc pc = .ok (.baload, 1))
    (kk : W p l e R s m args below meth c H locs cells slots Q (F0 m (pc + 1) ls (.int (G k j) :: rest))) : W p l e R s m args below meth c H locs cells slots Q (F0 m pc ls (.int i :: .ref (ad k) :: rest)) := by
  subst hij
  refine wk_zald S hC hW ha (vp_in_nI hj hn) hdg ?_
  rw [nI_clamp (Nat.lt_trans hj hn)]; exact kk
theorem wk_alen {k n t : Nat} {ty : FieldType} (S : CallFix p m c cc nL s args (w0 :: mt_T) own) (hC : mt_C g z s) (hW : mt_W g z (mt_wc g ad lc mc bc N G o d) ad H) (ha : mt_arr g lc bc N k = some (g.2 t, n)) (ht : (mt_tys g)[t]? = some (g.2 t, ty)) (hdg : decode cc pc = .ok (.arraylength, 1))
    (kk : W p l e R s m args below meth c H locs cells slots Q (F0 m (pc + 1) ls (.int (nI n) :: rest))) : W p l e R s m args below meth c H locs cells slots Q (F0 m pc ls (.ref (ad k) :: rest)) := mt_alen S hC hW t ht (wc_arr ha) rfl hdg kk
/-- a row of references: what is there, or null -/
theorem wk_aald {k n b cnt : Nat} (S : CallFix p m c cc nL s args (w0 :: mt_T) own) (hC : mt_C g z s) (hW : mt_W g z w ad H) (t : Nat) {C : String} (ht : (mt_tys g)[t]? = some (g.2 t, .object C)) (he : w k = some (.inl (g.2 t, n, .inr (.inr (.inr (.inr (mt_rr ad b cnt))))))) {i : Int32} (hin : vp_in i n) (hdg : decode cc pc = .ok (.aaload, 1))
    (k1 : i.toNatClampNeg < cnt → W p l e R s m args below meth c H locs cells slots Q (F0 m (pc + 1) ls (.ref (ad (b + i.toNatClampNeg)) :: rest)))
    (k2 : ¬ i.toNatClampNeg < cnt → W p l e R s m args below meth c H locs cells slots Q (F0 m (pc + 1) ls (.null :: rest))) : W p l e R s m args below meth c H locs cells slots Q (F0 m pc ls (.int i :: .ref (ad k) :: rest)) := by
  refine mt_aald S hC hW t ht he hin hdg ?_
  unfold mt_rr
  by_cases h : i.toNatClampNeg < cnt
  · rw [if_pos h]; exact k1 h
  · rw [if_neg h]; exact k2 h
theorem wk_iast {k n : Nat} (S : CallFix p m c cc nL s args (w0 :: mt_T) own) (hC : mt_C g z s) (hW : mt_W g z (mt_wc g ad lc mc bc N G o d) ad H) (hS : va_S (mt_A z) s.heap H locs) (ha : mt_arr g lc bc N k = some (g.2 0, n)) {i x : Int32} (hin : vp_in i n) (hdg : decode cc pc = .ok (.iastore, 1))
    (kk : ∀ (H1 : Heap) (locs1 : List Loc), mt_W g z (mt_wc g ad lc mc bc N (mt_gu G k i.toNatClampNeg x) o d) ad H1 → va_S (mt_A z) s.heap H1 locs1 → W p l e R s m args below meth c H1 locs1 cells slots Q (F0 m (pc + 1) ls rest)) : W p l e R s m args below meth c H locs cells slots Q (F0 m pc ls (.int x :: .int i :: .ref (ad k) :: rest)) :=
  mt_iast S hC hW hS (wc_arr ha) hin hdg fun H1 l1 h1 h2 => kk H1 l1 (h1.to (wc_setg ha)) h2
theorem wk_iasn {k n : Nat} (S : CallFix p m c cc nL s args (w0 :: mt_T) own) (hC : mt_C g z s) (hW : mt_W g z (mt_wc g ad lc mc bc N G o d) ad H) (hS : va_S (mt_A z) s.heap H locs) (ha : mt_arr g lc bc N k = some (g.2 0, n)) {i x : Int32} (j : Nat) (hij : i = nI j) (hj : j < n) (hn : n < 2 ^ 31) (hdg : decode cc pc = .ok (.iastore, 1))
    (kk : ∀ (H1 : Heap) (locs1 : List Loc), mt_W g z (mt_wc g ad lc mc bc N (mt_gu G k j x) o d) ad H1 → va_S (mt_A z) s.heap H1 locs1 → W p l e R s m args below meth c H1 locs1 cells slots Q (F0 m (pc + 1) ls rest)) : W p l e R s m args below meth c H locs cells slots Q (F0 m pc ls (.int x :: .int i :: .ref (ad k) :: rest)) := by
  subst hij
  refine wk_iast S hC hW hS ha (vp_in_nI hj hn) hdg fun H1 l1 h1 h2 => ?_
  rw [nI_clamp (Nat.lt_trans hj hn)] at h1; exact kk H1 l1 h1 h2
theorem wk_zast {k n : Nat} (S : CallFix p m c cc nL s args (w0 :: mt_T) own) (hC : mt_C g z s) (hW : mt_W g z (mt_wc g ad lc mc bc N G o d) ad H) (hS : va_S (mt_A z) s.heap H locs) (ha : mt_arr g lc bc N k = some (g.2 1, n)) {i x : Int32} (hin : vp_in i n) (hnx : narrow .boolean (.int x) = .int x) (hdg : decode cc pc = .ok (.bastore, 1))
    (kk : ∀ (H1 : Heap) (locs1 : List Loc), mt_W g z (mt_wc g ad lc mc bc N (mt_gu G k i.toNatClampNeg x) o d) ad H1 → va_S (mt_A z) s.heap H1 locs1 → W p l e R s m args below meth c H1 locs1 cells slots Q (F0 m (pc + 1) ls rest)) : W p l e R s m args below meth c H locs cells slots Q (F0 m pc ls (.int x :: .int i :: .ref (ad k) :: rest)) :=
  mt_zast S hC hW hS (wc_arr ha) hin hnx hdg fun H1 l1 h1 h2 => kk H1 l1 (h1.to (wc_setg ha)) h2
theorem wk_zasn {k n : Nat} (S : CallFix p m c cc nL s args (w0 :: mt_T) own) (hC : mt_C g z s) (hW : mt_W g z (mt_wc g ad lc mc bc N G o d) ad H) (hS : va_S (mt_A z) s.heap H locs) (ha : mt_arr g lc bc N k = some (g.2 1, n)) {i x : Int32} (j : Nat) (hij : i = nI j) (hj : j < n) (hn : n < 2 ^ 31) (hnx : narrow .boolean (.int x) = .int x) (hdg : decode cc pc = .ok (.bastore, 1))
    (kk : ∀ (H1 : Heap) (locs1 : List Loc), mt_W g z (mt_wc g ad lc mc bc N (mt_gu G k j x) o d) ad H1 → va_S (mt_A z) s.heap H1 locs1 → W p l e R s m args below meth c H1 locs1 cells slots Q (F0 m (pc + 1) ls rest)) : W p l e R s m args below meth c H locs cells slots Q (F0 m pc ls (.int x :: .int i :: .ref (ad k) :: rest)) := by
  subst hij
  refine wk_zast S hC hW hS ha (vp_in_nI hj hn) hnx hdg fun H1 l1 h1 h2 => ?_
  rw [nI_clamp (Nat.lt_trans hj hn)] at h1; exact kk H1 l1 h1 h2
-- calls: their one answer known
section
variable {index : Nat} {y : MethodName} {bytes : ByteArray} {maxL : Nat} {ret : Option FieldType} {n fr lo mc1 ms1 : Nat} {b : Addr} {As : List Value} {r1 : mt_R} {ci k : Nat} {fs : List Value} {vc : vw_C}
theorem mt_cV1 {v : Value} (S : CallFix p m c cc nL s args (w0 :: mt_T) own) (P : mt_pV y bytes maxL ret n) (hlink : Cond.methodLink own index y ∈ mt_T) (hM : mt_K l g z y bytes maxL ret fr lo mc1 ms1 (.ref (ad k) :: As) w ad r1 w1 ad1) (hC : mt_C g z s) (hW : mt_W g z w ad H) (hS : va_S (mt_A z) s.heap H locs)
    (hrecv : w k = some (.inr (ci, fs))) (hci : vwCl[ci]? = some vc) (hcl : vc.1 = y.cls) (hn : As.length = n) (hl : ls.size = nL) (hst : st0 = As.reverse ++ .ref (ad k) :: rest) (hcat : (rest.map fun v => v.category).sum ≤ 8) (hdg : decode cc pc = .ok (.invokevirtual index, 3)) (hR : fr + 1 ≤ R.frames ∧ 8 + (maxL + 11) + lo ≤ R.locals) (hf : cells + mc1 ≤ R.cells ∧ slots + ms1 ≤ R.slots) (hres : r1 = .inr (some v))
    (kk : ∀ (H1 : Heap) (locs1 : List Loc), mt_W g z w1 ad1 H1 → va_S (mt_A z) s.heap H1 locs1 → W p l e R s m args below meth c H1 locs1 (cells + mc1) (slots + ms1) Q (F0 m (pc + 3) ls (v :: rest))) :
    W p l e R s m args below meth c H locs cells slots Q (F0 m pc ls st0) :=
  mt_cV0 S P hlink hM hC hW hS rfl hrecv hci hcl hn hl hst hcat hdg hR hf (fun H1 l1 v9 e h1 h2 => by rw [hres] at e; cases e; exact kk H1 l1 h1 h2) (fun H1 l1 E q ce e => by rw [hres] at e; cases e)
theorem mt_cVv (S : CallFix p m c cc nL s args (w0 :: mt_T) own) (P : mt_pV y bytes maxL ret n) (hlink : Cond.methodLink own index y ∈ mt_T) (hM : mt_K l g z y bytes maxL ret fr lo mc1 ms1 (.ref (ad k) :: As) w ad r1 w1 ad1) (hC : mt_C g z s) (hW : mt_W g z w ad H) (hS : va_S (mt_A z) s.heap H locs)
    (hrecv : w k = some (.inr (ci, fs))) (hci : vwCl[ci]? = some vc) (hcl : vc.1 = y.cls) (hn : As.length = n) (hl : ls.size = nL) (hst : st0 = As.reverse ++ .ref (ad k) :: rest) (hcat : (rest.map fun v => v.category).sum ≤ 8) (hdg : decode cc pc = .ok (.invokevirtual index, 3)) (hR : fr + 1 ≤ R.frames ∧ 8 + (maxL + 11) + lo ≤ R.locals) (hf : cells + mc1 ≤ R.cells ∧ slots + ms1 ≤ R.slots) (hres : r1 = .inr none)
    (kk : ∀ (H1 : Heap) (locs1 : List Loc), mt_W g z w1 ad1 H1 → va_S (mt_A z) s.heap H1 locs1 → W p l e R s m args below meth c H1 locs1 (cells + mc1) (slots + ms1) Q (F0 m (pc + 3) ls rest)) :
    W p l e R s m args below meth c H locs cells slots Q (F0 m pc ls st0) :=
  mt_cV0 S P hlink hM hC hW hS rfl hrecv hci hcl hn hl hst hcat hdg hR hf (fun H1 l1 v9 e h1 h2 => by rw [hres] at e; cases e; exact kk H1 l1 h1 h2) (fun H1 l1 E q ce e => by rw [hres] at e; cases e)
theorem mt_cVt {E : String} (S : CallFix p m c cc nL s args (w0 :: mt_T) own) (P : mt_pV y bytes maxL ret n) (hlink : Cond.methodLink own index y ∈ mt_T) (hM : mt_K l g z y bytes maxL ret fr lo mc1 ms1 (.ref (ad k) :: As) w ad r1 w1 ad1) (hC : mt_C g z s) (hW : mt_W g z w ad H) (hS : va_S (mt_A z) s.heap H locs)
    (hrecv : w k = some (.inr (ci, fs))) (hci : vwCl[ci]? = some vc) (hcl : vc.1 = y.cls) (hn : As.length = n) (hl : ls.size = nL) (hst : st0 = As.reverse ++ .ref (ad k) :: rest) (hcat : (rest.map fun v => v.category).sum ≤ 8) (hdg : decode cc pc = .ok (.invokevirtual index, 3)) (hR : fr + 1 ≤ R.frames ∧ 8 + (maxL + 11) + lo ≤ R.locals) (hf : cells + mc1 ≤ R.cells ∧ slots + ms1 ≤ R.slots) (hres : r1 = .inl E)
    (hout : ∀ x ∈ c.exceptionTable.toList, False) (hk : meth.locks = false) (hres0 : res = .inl E) (hw : w1 = w') (ha : ad1 = ad') (hc0 : cells + mc1 ≤ mc0) (hs0 : slots + ms1 ≤ ms0) :
    W p l e R s m args below meth c H locs cells slots (mt_E below g z w' ad' res args s mc0 ms0) (F0 m pc ls st0) := by
  subst hw; subst ha
  exact mt_cV0 S P hlink hM hC hW hS rfl hrecv hci hcl hn hl hst hcat hdg hR hf (fun H1 l1 v9 e => by rw [hres] at e; cases e) (fun H1 l1 E9 q ce e h1 h2 h3 h4 h5 => by rw [hres] at e; cases e; exact mt_out hout hk h1 h2 hres0 h3 h4 h5 hc0 hs0)
theorem mt_cS1 {v : Value} (S : CallFix p m c cc nL s args (w0 :: mt_T) own) (P : mt_pS y bytes maxL ret n) (hlink : Cond.methodLink own index y ∈ mt_T) (hM : mt_K l g z y bytes maxL ret fr lo mc1 ms1 As w ad r1 w1 ad1) (hC : mt_C g z s) (hW : mt_W g z w ad H) (hS : va_S (mt_A z) s.heap H locs)
    (hn : As.length = n) (hl : ls.size = nL) (hst : st0 = As.reverse ++ rest) (hcat : (rest.map fun v => v.category).sum ≤ 8) (hdg : decode cc pc = .ok (.invokestatic index, 3)) (hR : fr + 1 ≤ R.frames ∧ 8 + (maxL + 11) + lo ≤ R.locals) (hf : cells + mc1 ≤ R.cells ∧ slots + ms1 ≤ R.slots) (hres : r1 = .inr (some v))
    (kk : ∀ (H1 : Heap) (locs1 : List Loc), mt_W g z w1 ad1 H1 → va_S (mt_A z) s.heap H1 locs1 → W p l e R s m args below meth c H1 locs1 (cells + mc1) (slots + ms1) Q (F0 m (pc + 3) ls (v :: rest))) :
    W p l e R s m args below meth c H locs cells slots Q (F0 m pc ls st0) :=
  mt_cS0 S P hlink hM hC hW hS hn hl hst hcat hdg hR hf (fun H1 l1 v9 e h1 h2 => by rw [hres] at e; cases e; exact kk H1 l1 h1 h2) (fun H1 l1 E q ce e => by rw [hres] at e; cases e)
theorem mt_cSv (S : CallFix p m c cc nL s args (w0 :: mt_T) own) (P : mt_pS y bytes maxL ret n) (hlink : Cond.methodLink own index y ∈ mt_T) (hM : mt_K l g z y bytes maxL ret fr lo mc1 ms1 As w ad r1 w1 ad1) (hC : mt_C g z s) (hW : mt_W g z w ad H) (hS : va_S (mt_A z) s.heap H locs)
    (hn : As.length = n) (hl : ls.size = nL) (hst : st0 = As.reverse ++ rest) (hcat : (rest.map fun v => v.category).sum ≤ 8) (hdg : decode cc pc = .ok (.invokestatic index, 3)) (hR : fr + 1 ≤ R.frames ∧ 8 + (maxL + 11) + lo ≤ R.locals) (hf : cells + mc1 ≤ R.cells ∧ slots + ms1 ≤ R.slots) (hres : r1 = .inr none)
    (kk : ∀ (H1 : Heap) (locs1 : List Loc), mt_W g z w1 ad1 H1 → va_S (mt_A z) s.heap H1 locs1 → W p l e R s m args below meth c H1 locs1 (cells + mc1) (slots + ms1) Q (F0 m (pc + 3) ls rest)) :
    W p l e R s m args below meth c H locs cells slots Q (F0 m pc ls st0) :=
  mt_cS0 S P hlink hM hC hW hS hn hl hst hcat hdg hR hf (fun H1 l1 v9 e h1 h2 => by rw [hres] at e; cases e; exact kk H1 l1 h1 h2) (fun H1 l1 E q ce e => by rw [hres] at e; cases e)
theorem mt_cSt {E : String} (S : CallFix p m c cc nL s args (w0 :: mt_T) own) (P : mt_pS y bytes maxL ret n) (hlink : Cond.methodLink own index y ∈ mt_T) (hM : mt_K l g z y bytes maxL ret fr lo mc1 ms1 As w ad r1 w1 ad1) (hC : mt_C g z s) (hW : mt_W g z w ad H) (hS : va_S (mt_A z) s.heap H locs)
    (hn : As.length = n) (hl : ls.size = nL) (hst : st0 = As.reverse ++ rest) (hcat : (rest.map fun v => v.category).sum ≤ 8) (hdg : decode cc pc = .ok (.invokestatic index, 3)) (hR : fr + 1 ≤ R.frames ∧ 8 + (maxL + 11) + lo ≤ R.locals) (hf : cells + mc1 ≤ R.cells ∧ slots + ms1 ≤ R.slots) (hres : r1 = .inl E)
    (hout : ∀ x ∈ c.exceptionTable.toList, False) (hk : meth.locks = false) (hres0 : res = .inl E) (hw : w1 = w') (ha : ad1 = ad') (hc0 : cells + mc1 ≤ mc0) (hs0 : slots + ms1 ≤ ms0) :
    W p l e R s m args below meth c H locs cells slots (mt_E below g z w' ad' res args s mc0 ms0) (F0 m pc ls st0) := by
  subst hw; subst ha
  exact mt_cS0 S P hlink hM hC hW hS hn hl hst hcat hdg hR hf (fun H1 l1 v9 e => by rw [hres] at e; cases e) (fun H1 l1 E9 q ce e h1 h2 h3 h4 h5 => by rw [hres] at e; cases e; exact mt_out hout hk h1 h2 hres0 h3 h4 h5 hc0 hs0)
/-- a static method of the nest, of a method that never throws -/
theorem mt_cN1 {v : Value} {host : String} (S : CallFix p m c cc nL s args (w0 :: mt_T) own) (P : mt_pS y bytes maxL ret n) (hlink : Cond.methodLinkNest own index y host ∈ mt_bw) (hM : mt_K l g z y bytes maxL ret fr lo mc1 ms1 As w ad (.inr (some v)) w1 ad1) (hC : mt_C g z s) (hW : mt_W g z w ad H) (hS : va_S (mt_A z) s.heap H locs)
    (hn : As.length = n) (hl : ls.size = nL) (hst : st0 = As.reverse ++ rest) (hcat : (rest.map fun v => v.category).sum ≤ 8) (hdg : decode cc pc = .ok (.invokestatic index, 3)) (hR : fr + 1 ≤ R.frames ∧ 8 + (maxL + 11) + lo ≤ R.locals) (hf : cells + mc1 ≤ R.cells ∧ slots + ms1 ≤ R.slots)
    (kk : ∀ (H1 : Heap) (locs1 : List Loc), mt_W g z w1 ad1 H1 → va_S (mt_A z) s.heap H1 locs1 → W p l e R s m args below meth c H1 locs1 (cells + mc1) (slots + ms1) Q (F0 m (pc + 3) ls (v :: rest))) :
    W p l e R s m args below meth c H locs cells slots Q (F0 m pc ls st0) := by
  subst hst
  have hM' : Met l y (Cond.code y bytes maxL ret :: mt_T) ({ frames := fr, cells := mc1, slots := ms1, locals := lo }) (mt_Pc g z As w ad) (mt_Q g z w1 ad1 (.inr (some v))) mc1 ms1 (mt_A z) :=
    MetFree.mono hM (fun _ _ h => h) (fun _ _ _ _ _ h => h) (fun a st o t _ hq => by
      rcases hq with h | ⟨q, -, E, ce, L, ⟨h9, -⟩, -⟩
      · exact h
      · cases h9)
  obtain ⟨P1, P2, P3, P4, P5, P6⟩ := id P
  have hl9 := va_Nw.use (A := args) rfl (hC.2.2.2.2.2.1 _ hlink)
  have hcw := va_cnB (R := R) (s := s) (args := args) (own := own) (rm := { frames := fr, cells := mc1, slots := ms1, locals := lo }) (mc := mc1) (ms := ms1) n S.2.2.2.2 (mt_in (w0 := w0) (ws := Cond.code y bytes maxL ret :: mt_T) (fun w hw => (List.mem_cons.mp hw).elim (fun e => by rw [e]; exact P3) id)) rfl rfl rfl (hC.2.2.2.2.2.1 _ hlink) (S.2.2.2.2 _ (List.mem_cons_of_mem _ P2)) ⟨P4, P5, P6⟩ hR
  have hr := va_runSN (rest := rest) (g := F0 m pc ls (As.reverse ++ rest)) (cells := cells) (slots := slots) (locs := locs) (below := below) (meth := meth) (e := e) (H := H) S hM' ⟨hcw, S.2.2.2.2 _ (List.mem_cons_of_mem _ P1), trivial⟩ ⟨mt_blind, fun U hU hW9 => ⟨rfl, hC.go hS hU hW9, by rw [hU]; exact hW⟩⟩ rfl hn hl rfl (lv_room hcat) hdg hf
  intro T hT X
  obtain ⟨v', st₀, t, T', L, h0, X', hL, e1, e2, ⟨v9, hv1, hv2, hw1, hF⟩, st⟩ := hr T hT X
  obtain ⟨k1, k2, k3⟩ := vx_keep h0 e1 hS (fun _ _ h => h) (fun _ h => h) hL hF
  cases hv1; cases hv2
  obtain ⟨t2, a1, b1⟩ := kk T'.heap (locs ++ L) (by rw [e1]; exact hw1) k3 T' rfl X'
  exact ⟨t2, st t2 a1, b1⟩
end
end MTV

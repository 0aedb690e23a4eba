/-! the rows of this claim's own world: cells by id (w), the id's address (ad), all from z on -/
section MT
abbrev mt_G : Type := va_G × (Nat → ClassId)
def mt_tys (g : mt_G) : List (ClassId × FieldType) := [(g.2 0, .int), (g.2 1, .boolean), (g.2 2, .object "MountTable$Layer"), (g.2 3, .object "MountTable$Mount"), (g.2 4, .object "MountTable$Backup"), (g.2 5, .long), (g.2 6, .double)]
abbrev mt_w : Type := Nat → Option va_E
def mt_up (w : mt_w) (k : Nat) (e : va_E) : mt_w := fun b => if b = k then some e else w b
def mt_ua (ad : Nat → Nat) (k q : Nat) : Nat → Nat := fun b => if b = k then q else ad b
abbrev mt_A (z : Nat) : Nat → Prop := fun q => z ≤ q
def mt_W (g : mt_G) (z : Nat) (w : mt_w) (ad : Nat → Nat) (H : Heap) : Prop := (∀ (k : Nat) (e : va_E), w k = some e → va_at g.1 vwCl (ad k, e) H ∧ z ≤ ad k) ∧ ∀ (i j : Nat) (e f : va_E), w i = some e → w j = some f → ad i = ad j → i = j
theorem mt_W.one {g : mt_G} {z : Nat} {w : mt_w} {ad : Nat → Nat} {H : Heap} (h : mt_W g z w ad H) {k : Nat} {e : va_E} (hk : w k = some e) : va_P g.1 vwCl [(ad k, e)] H := fun i q hi => by
  match i, hi with
  | 0, hi => cases hi; exact (h.1 k e hk).1
  | i + 1, hi => simp at hi
theorem mt_W.set {g : mt_G} {z : Nat} {w : mt_w} {ad : Nat → Nat} {H H1 : Heap} (h : mt_W g z w ad H) {k : Nat} {e0 e : va_E} (hk : w k = some e0) (he : va_at g.1 vwCl (ad k, e) H1) (oq : ∀ q : Nat, q ≠ ad k → H1[q]? = H[q]?) : mt_W g z (mt_up w k e) ad H1 := by
  have key : ∀ (b : Nat) (x : va_E), mt_up w k e b = some x → ∃ y, w b = some y ∧ (b = k ∧ x = e ∨ b ≠ k ∧ y = x) := by
    intro b x hb
    unfold mt_up at hb
    by_cases hbk : b = k
    · rw [if_pos hbk] at hb; subst hbk; exact ⟨e0, hk, Or.inl ⟨rfl, (Option.some.inj hb).symm⟩⟩
    · rw [if_neg hbk] at hb; exact ⟨x, hb, Or.inr ⟨hbk, rfl⟩⟩
  refine ⟨fun b x hb => ?_, fun i j x y hi hj hij => ?_⟩
  · obtain ⟨y, h1, ⟨h2, h3⟩ | ⟨h2, h3⟩⟩ := key b x hb
    · subst h2; subst h3; exact ⟨he, (h.1 b y h1).2⟩
    · subst h3
      refine ⟨(h.1 b y h1).1.kept (oq _ fun e9 => h2 (h.2 b k y e0 h1 hk e9)), (h.1 b y h1).2⟩
  · obtain ⟨x', h1, -⟩ := key i x hi
    obtain ⟨y', h2, -⟩ := key j y hj
    exact h.2 i j x' y' h1 h2 hij
theorem mt_W.add {g : mt_G} {z : Nat} {w : mt_w} {ad : Nat → Nat} {H H1 : Heap} (h : mt_W g z w ad H) {k : Nat} {e : va_E} (hk : w k = none) (hz : z ≤ H.size) (he : va_at g.1 vwCl (H.size, e) H1) (oq : ∀ q : Nat, q < H.size → H1[q]? = H[q]?) : mt_W g z (mt_up w k e) (mt_ua ad k H.size) H1 := by
  have key : ∀ (b : Nat) (x : va_E), mt_up w k e b = some x → (b = k ∧ x = e ∧ mt_ua ad k H.size b = H.size) ∨ (b ≠ k ∧ w b = some x ∧ mt_ua ad k H.size b = ad b ∧ ad b < H.size) := by
    intro b x hb
    unfold mt_up at hb
    by_cases hbk : b = k
    · rw [if_pos hbk] at hb; exact Or.inl ⟨hbk, (Option.some.inj hb).symm, by unfold mt_ua; rw [if_pos hbk]⟩
    · rw [if_neg hbk] at hb; exact Or.inr ⟨hbk, hb, by unfold mt_ua; rw [if_neg hbk], (h.1 b x hb).1.lt⟩
  refine ⟨fun b x hb => ?_, fun i j x y hi hj hij => ?_⟩
  · rcases key b x hb with ⟨h1, h2, h3⟩ | ⟨h1, h2, h3, h4⟩
    · rw [h3, h2]; exact ⟨he, hz⟩
    · rw [h3]; exact ⟨(h.1 b x h2).1.kept (oq _ h4), (h.1 b x h2).2⟩
  · rcases key i x hi with ⟨h1, -, h3⟩ | ⟨h1, h2, h3, h4⟩ <;> rcases key j y hj with ⟨g1, -, g3⟩ | ⟨g1, g2, g3, g4⟩
    · rw [h1, g1]
    · rw [h3, g3] at hij; omega
    · rw [h3, g3] at hij; omega
    · rw [h3, g3] at hij; exact h.2 i j x y h2 g2 hij
theorem mt_W.grow {g : mt_G} {z : Nat} {w : mt_w} {ad : Nat → Nat} {H H1 : Heap} (h : mt_W g z w ad H) (oq : ∀ q : Nat, q < H.size → H1[q]? = H[q]?) : mt_W g z w ad H1 :=
  ⟨fun b x hb => ⟨(h.1 b x hb).1.kept (oq _ (h.1 b x hb).1.lt), (h.1 b x hb).2⟩, h.2⟩
/-- what stays true of the tables, the statics of Throwable and the texts -/
def mt_C (g : mt_G) (z : Nat) (U : State) : Prop := va_K g.1 vwCl (mt_tys g) U ∧ z ≤ U.heap.size ∧ vx_Zq Bundle.tN "UNASSIGNED_STACK" Bundle.steD (mt_A z) U U.heap ∧ vx_Zq Bundle.tN "SUPPRESSED_SENTINEL" Bundle.listD (mt_A z) U U.heap ∧ (∀ q ∈ mt_strs, ∃ a : Nat, vk_R q.1 q.2.1 q.2.2 a U) ∧ (∀ w ∈ mt_bw, va_Nw w U) ∧ (∀ q ∈ mt_nc, va_Nc q.1 q.2 U) ∧ ∀ C ∈ mt_ao, va_AO C U
theorem mt_bwm {w : Cond} (h : mt_bk w = true) {s U : State} (hW : s.WarmedH U.vm) (hZ : va_Nw w s) : va_Nw w U := by
  cases w <;> first | exact Bool.noConfusion (show false = true from h) | exact hZ.warmF hW | exact hZ.warmM hW | exact hZ.warmC hW | exact hZ.warmD hW
theorem mt_bwt {w : Cond} (h : mt_bk w = true) : w.onTables = true := by
  cases w <;> first | exact Bool.noConfusion (show false = true from h) | rfl
theorem mt_C.go {g : mt_G} {z : Nat} {s U : State} {H : Heap} {locs : List Loc} (h : mt_C g z s) (hS : va_S (mt_A z) s.heap H locs) (hU : U.heap = H) (hW : s.WarmedH U.vm) : mt_C g z U := by
  obtain ⟨h1, h2, h3, h4, h5, h6, h7, h8⟩ := h
  refine ⟨va_K.moved hW.alike h1, by rw [hU]; exact Nat.le_trans h2 hS.1, ?_, ?_, fun q hq => ?_, fun q hq => mt_bwm (List.mem_filter.mp hq).2 hW (h6 q hq), fun q hq => (h7 q hq).moved hW.alike, fun q hq => (h8 q hq).moved hW.alike⟩
  · rw [hU]; exact (h3.moved hW.alike).kept hS.2.1
  · rw [hU]; exact (h4.moved hW.alike).kept hS.2.1
  · obtain ⟨a, ha⟩ := h5 q hq
    exact ⟨a, ha.warm hW⟩
theorem mt_C.calling {g : mt_G} {z : Nat} {U : State} {f : JFrame} {mk : MethodId} {a : Array Value} (h : mt_C g z U) : mt_C g z (U.calling f mk a) := by
  obtain ⟨h1, h2, h3, h4, h5, h6, h7, h8⟩ := h
  have hA : U.vm.Alike (U.calling f mk a).vm := Vm.Alike.refl U.vm
  exact ⟨va_K.moved (u := U) (U := U.calling f mk a) hA h1, h2, vx_Zq.moved (u := U) (U := U.calling f mk a) hA h3, vx_Zq.moved (u := U) (U := U.calling f mk a) hA h4, fun q hq => by
    obtain ⟨a9, ha⟩ := h5 q hq
    exact ⟨a9, ha.same rfl⟩, fun q hq => va_Nw.same (u := U) (U := U.calling f mk a) (mt_bwt (List.mem_filter.mp hq).2) rfl (h6 q hq), fun q hq => (h7 q hq).moved hA, fun q hq => (h8 q hq).moved hA⟩
abbrev mt_R : Type := String ⊕ Option Value
def mt_Q (g : mt_G) (z : Nat) (w : mt_w) (ad : Nat → Nat) (res : mt_R) : Array Value → State → Outcome → State → Prop := fun _ st o t => ∃ v, res = .inr v ∧ o = .returned v ∧ mt_W g z w ad t.heap ∧ va_F (mt_A z) st t
def mt_X (g : mt_G) (z : Nat) (w : mt_w) (ad : Nat → Nat) (res : mt_R) : String → State → State → Prop := fun E st t => res = .inl E ∧ mt_W g z w ad t.heap ∧ va_F (mt_A z) st t
abbrev mt_Pc (g : mt_G) (z : Nat) (av : List Value) (w : mt_w) (ad : Nat → Nat) : Array Value → State → Prop := va_Pc av (fun U => mt_C g z U ∧ mt_W g z w ad U.heap)
/-- a method's contract: from the world (w, ad), with these arguments, it answers (or throws) res, and the world is (w', ad') -/
def mt_K (l : Launch) (g : mt_G) (z : Nat) (y : MethodName) (cc : ByteArray) (maxL : Nat) (ret : Option FieldType) (fr lo mc ms : Nat) (av : List Value) (w : mt_w) (ad : Nat → Nat) (res : mt_R) (w' : mt_w) (ad' : Nat → Nat) : Prop :=
  vx_Met l y (Cond.code y cc maxL ret :: mt_T) ({ frames := fr, cells := mc, slots := ms, locals := lo }) (mt_Pc g z av w ad) (mt_Q g z w' ad' res) (mt_X g z w' ad' res) mc ms (mt_A z)
theorem mt_blind {g : mt_G} {z : Nat} {av : List Value} {w : mt_w} {ad : Nat → Nat} : FrameBlind (mt_Pc g z av w ad) := fun a U f mk q => ⟨q.1, q.2.1.calling, q.2.2⟩
/-- what a caller needs of a callee's words -/
def mt_pV (y : MethodName) (cc : ByteArray) (maxL : Nat) (ret : Option FieldType) (n : Nat) : Prop := Cond.instanceMethod y ∈ mt_T ∧ Cond.selects y.cls y y ∈ mt_T ∧ Cond.initialized y.cls ∈ mt_T ∧ Cond.code y cc maxL ret ∈ mt_T ∧ y.cls ≠ "java/lang/invoke/MethodHandle" ∧ y.cls ≠ "java/lang/invoke/VarHandle" ∧ (parseMethodDescriptor y.desc).map (fun d => d.parameters.length) = some n
def mt_pS (y : MethodName) (cc : ByteArray) (maxL : Nat) (ret : Option FieldType) (n : Nat) : Prop := Cond.static y ∈ mt_T ∧ Cond.initialized y.cls ∈ mt_T ∧ Cond.code y cc maxL ret ∈ mt_T ∧ y.cls ≠ "java/lang/invoke/MethodHandle" ∧ y.cls ≠ "java/lang/invoke/VarHandle" ∧ (parseMethodDescriptor y.desc).map (fun d => d.parameters.length) = some n
theorem mt_good {w : Cond} (h : w ∈ mt_T) : goodWord w = true := (List.mem_filter.mp h).2
theorem mt_in {w0 : Cond} {ws : List Cond} (h : ∀ w ∈ ws, w ∈ mt_T) : GoodIn (w0 :: mt_T) ws := fun w hw => ⟨List.mem_cons_of_mem _ (h w hw), good_of_word (mt_good (h w hw))⟩
theorem mt_inV {w0 : Cond} {own : String} {idx : Nat} {y : MethodName} {cc : ByteArray} {maxL : Nat} {ret : Option FieldType} {n : Nat} (P : mt_pV y cc maxL ret n) (hl : Cond.methodLink own idx y ∈ mt_T) : GoodIn (w0 :: mt_T) (wsV own idx y.cls y (Cond.code y cc maxL ret :: mt_T)) := mt_in fun w hw => by
  obtain ⟨h1, h2, h3, h4, -⟩ := P
  rcases List.mem_append.mp hw with h | h
  · rcases List.mem_cons.mp h with rfl | h
    · exact hl
    · rcases List.mem_cons.mp h with rfl | h
      · exact h1
      · rcases List.mem_cons.mp h with rfl | h
        · exact h2
        · rcases List.mem_cons.mp h with rfl | h
          · exact h3
          · cases h
  · rcases List.mem_cons.mp h with rfl | h
    · exact h4
    · exact h
theorem mt_inS {w0 : Cond} {own : String} {idx : Nat} {y : MethodName} {cc : ByteArray} {maxL : Nat} {ret : Option FieldType} {n : Nat} (P : mt_pS y cc maxL ret n) (hl : Cond.methodLink own idx y ∈ mt_T) : GoodIn (w0 :: mt_T) (va_wsS own idx y (Cond.code y cc maxL ret :: mt_T)) := mt_in fun w hw => by
  obtain ⟨h1, h2, h3, -⟩ := P
  rcases List.mem_append.mp hw with h | h
  · rcases List.mem_cons.mp h with rfl | h
    · exact hl
    · rcases List.mem_cons.mp h with rfl | h
      · exact h1
      · rcases List.mem_cons.mp h with rfl | h
        · exact h2
        · cases h
  · rcases List.mem_cons.mp h with rfl | h
    · exact h3
    · exact h
end MT

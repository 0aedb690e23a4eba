def ocase {α : Type} (r : Option Nat) (a : α) (f : Nat → α) : α := match r with | none => a | some i => f i
theorem ocase_n {α : Type} {r : Option Nat} {a : α} {f : Nat → α} (h : r = none) : ocase r a f = a := by rw [h]; rfl
theorem ocase_s {α : Type} {r : Option Nat} {a : α} {f : Nat → α} {i : Nat} (h : r = some i) : ocase r a f = f i := by rw [h]; rfl
def scase {α β : Type} (r : String ⊕ α) (a : String → β) (f : α → β) : β := match r with | .inl E => a E | .inr x => f x
theorem scase_l {α β : Type} {r : String ⊕ α} {a : String → β} {f : α → β} {E : String} (h : r = .inl E) : scase r a f = a E := by rw [h]; rfl
theorem scase_r {α β : Type} {r : String ⊕ α} {a : String → β} {f : α → β} {x : α} (h : r = .inr x) : scase r a f = f x := by rw [h]; rfl
def xr_i (r : String ⊕ Int32) : mt_R := match r with | .inl E => .inl E | .inr x => .inr (some (.int x))
def xr_u (r : String ⊕ Unit) : mt_R := match r with | .inl E => .inl E | .inr _ => .inr none
def xr_f (r : String ⊕ UInt32) : mt_R := match r with | .inl E => .inl E | .inr x => .inr (some (.float x))
def xr_d (r : String ⊕ UInt64) : mt_R := match r with | .inl E => .inl E | .inr x => .inr (some (.double x))
def xr_n (ad : Nat → Nat) (b : Nat) (r : String ⊕ Nat) : mt_R := match r with | .inl E => .inl E | .inr i => .inr (some (.ref (ad (b + i))))
def xr_a (ad : Nat → Nat) (b : Nat) (r : Option Nat) : mt_R := .inr (some (va_rf (r.map (fun i => ad (b + i)))))
section LP
variable {p : Program} {l : Launch} {e : Env} {R : Room} {s : State} {m : MethodId} {args : Array Value} {below : List Frame} {meth : Method} {c : Code} {H : Heap} {locs : List Loc} {cells slots : Nat} {Q : State → Prop} {nL head : Nat} {ls : Array Slot} {stk : List Value} {g : mt_G} {z : Nat} {ad : Nat → Nat}
/-- a loop that counts from k0 up to n0 -/
theorem lp_up (n0 : Nat) (w : Nat → mt_w) (L : Nat → List (Nat × Value)) (P : Nat → Prop) (k0 : Nat) (hk0 : k0 ≤ n0) (hP : P k0) (hW : mt_W g z (w k0) ad H) (hS : va_S (mt_A z) s.heap H locs) (hl : lv_has ls nL (L k0))
    (hexit : ∀ (H : Heap) (locs : List Loc) (ls : Array Slot), P n0 → mt_W g z (w n0) ad H → va_S (mt_A z) s.heap H locs → lv_has ls nL (L n0) → W p l e R s m args below meth c H locs cells slots Q (F0 m head ls stk))
    (hbody : ∀ (k : Nat) (H : Heap) (locs : List Loc) (ls : Array Slot), k0 ≤ k → k < n0 → P k → mt_W g z (w k) ad H → va_S (mt_A z) s.heap H locs → lv_has ls nL (L k) → (∀ (H1 : Heap) (locs1 : List Loc) (ls1 : Array Slot), P (k + 1) → mt_W g z (w (k + 1)) ad H1 → va_S (mt_A z) s.heap H1 locs1 → lv_has ls1 nL (L (k + 1)) → W p l e R s m args below meth c H1 locs1 cells slots Q (F0 m head ls1 stk)) → W p l e R s m args below meth c H locs cells slots Q (F0 m head ls stk)) :
    W p l e R s m args below meth c H locs cells slots Q (F0 m head ls stk) := by
  have key : ∀ (n k : Nat), k + n = n0 → k0 ≤ k → ∀ (H : Heap) (locs : List Loc) (ls : Array Slot), P k → mt_W g z (w k) ad H → va_S (mt_A z) s.heap H locs → lv_has ls nL (L k) → W p l e R s m args below meth c H locs cells slots Q (F0 m head ls stk) := by
    intro n
    induction n with
    | zero =>
      intro k hk _ H locs ls hP hW hS hl
      have hk : k = n0 := by omega
      rw [hk] at hP hW hl
      exact hexit H locs ls hP hW hS hl
    | succ n ih =>
      intro k hk hkk H locs ls hP hW hS hl
      exact hbody k H locs ls hkk (by omega) hP hW hS hl (fun H1 l1 ls1 h1 h2 h3 h4 => ih (k + 1) (by omega) (by omega) H1 l1 ls1 h1 h2 h3 h4)
  exact key (n0 - k0) k0 (by omega) (Nat.le_refl _) H locs ls hP hW hS hl
/-- a loop that ends by itself, after at most n0 rounds -/
theorem lp_any (n0 : Nat) (w : Nat → mt_w) (L : Nat → List (Nat × Value)) (P : Nat → Prop) (k0 : Nat) (hk0 : k0 ≤ n0) (hP : P k0) (hW : mt_W g z (w k0) ad H) (hS : va_S (mt_A z) s.heap H locs) (hl : lv_has ls nL (L k0))
    (hbody : ∀ (k : Nat) (H : Heap) (locs : List Loc) (ls : Array Slot), k0 ≤ k → k ≤ n0 → P k → mt_W g z (w k) ad H → va_S (mt_A z) s.heap H locs → lv_has ls nL (L k) → (k < n0 → ∀ (H1 : Heap) (locs1 : List Loc) (ls1 : Array Slot), P (k + 1) → mt_W g z (w (k + 1)) ad H1 → va_S (mt_A z) s.heap H1 locs1 → lv_has ls1 nL (L (k + 1)) → W p l e R s m args below meth c H1 locs1 cells slots Q (F0 m head ls1 stk)) → W p l e R s m args below meth c H locs cells slots Q (F0 m head ls stk)) :
    W p l e R s m args below meth c H locs cells slots Q (F0 m head ls stk) := by
  have key : ∀ (n k : Nat), k + n = n0 → k0 ≤ k → ∀ (H : Heap) (locs : List Loc) (ls : Array Slot), P k → mt_W g z (w k) ad H → va_S (mt_A z) s.heap H locs → lv_has ls nL (L k) → W p l e R s m args below meth c H locs cells slots Q (F0 m head ls stk) := by
    intro n
    induction n with
    | zero =>
      intro k hk hkk H locs ls hP hW hS hl
      exact hbody k H locs ls hkk (by omega) hP hW hS hl (fun h9 => absurd h9 (by omega))
    | succ n ih =>
      intro k hk hkk H locs ls hP hW hS hl
      exact hbody k H locs ls hkk (by omega) hP hW hS hl (fun _ H1 l1 ls1 h1 h2 h3 h4 => ih (k + 1) (by omega) (by omega) H1 l1 ls1 h1 h2 h3 h4)
  exact key (n0 - k0) k0 (by omega) (Nat.le_refl _) H locs ls hP hW hS hl
end LP

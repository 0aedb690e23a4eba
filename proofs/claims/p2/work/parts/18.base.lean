def ocase {α : Type} (r : Option Nat) (a : α) (f : Nat → α) : α := match r with | none => a | some i => f i
theorem ocase_n {α : Type} {r : Option Nat} {a : α} {f : Nat → α} (h : r = none) : ocase r a f = a := by rw [h]; rfl
theorem ocase_s {α : Type} {r : Option Nat} {a : α} {f : Nat → α} {i : Nat} (h : r = some i) : ocase r a f = f i := by rw [h]; rfl
def scase {α β : Type} (r : String ⊕ α) (a : String → β) (f : α → β) : β := match r with | .inl E => a E | .inr x => f x
theorem scase_l {α β : Type} {r : String ⊕ α} {a : String → β} {f : α → β} {E : String} (h : r = .inl E) : scase r a f = a E := by rw [h]; rfl
theorem scase_r {α β : Type} {r : String ⊕ α} {a : String → β} {f : α → β} {x : α} (h : r = .inr x) : scase r a f = f x := by rw [h]; rfl
def xr_i (r : String ⊕ Int32) : mt_R := match r with | .inl E => .inl E | .inr x => .inr (some (.int x))
def xr_u (r : String ⊕ Unit) : mt_R := match r with | .inl E => .inl E | .inr _ => .inr none
def xr_f (r : String ⊕ UInt32) : mt_R := match r with | .inl E => .inl E | .inr x => .inr (some (.float x))
def xr_d (r : String ⊕ UInt64) : mt_R := match r with | .inl E => .inl E | .inr x => .inr (some (.double x))
def xr_n (ad : Nat → Nat) (b : Nat) (r : String ⊕ Nat) : mt_R := match r with | .inl E => .inl E | .inr i => .inr (some (.ref (ad (b + i))))
def xr_a (ad : Nat → Nat) (b : Nat) (r : Option Nat) : mt_R := .inr (some (va_rf (r.map (fun i => ad (b + i)))))

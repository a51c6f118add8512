abbrev rcP (P : PS) (sz : Nat) (x1 y1 x2 y2 : Int32) : PS := nwP P sz (-1) 0 (bx4 x1 y1 x2 y2) 0
theorem Alok.nw {P : PS} {F : FS} (h : Alok P F) (sz : Nat) (n : Int32) (lv : Nat) (bx : Nat → Int32) (w : Nat) : Alok (nwP P sz n lv bx w) F := by
  refine ⟨h.1, fun a q hq => ?_⟩
  rw [pD_nwP]
  by_cases h2 : q = sz
  · rw [h2, va_up_self]
  · rw [va_up_ne _ _ h2]; exact h.2 a q hq
/-- sums up the holders, at most n of them -/
def upG (g : Nat → Int32) (H : Nat → Option Nat) : Nat → Int32 → Option Nat → Int32
  | 0, z, _ => z
  | _ + 1, z, none => z
  | n + 1, z, some f => upG g H n (z + g f) (H f)
def UpI (D : Nat → Prop) (H : Nat → Option Nat) : Nat → Option Nat → Prop
  | 0, r => r = none
  | n + 1, r => ∀ f, r = some f → D f ∧ UpI D H n (H f)
theorem upG_n (g : Nat → Int32) (H : Nat → Option Nat) (n : Nat) (z : Int32) : upG g H n z none = z := by cases n <;> rfl
/-- counts full ones up the holders -/
def upS (c : Nat → Prop) [DecidablePred c] (H : Nat → Option Nat) : Nat → Nat → Option Nat → Nat
  | 0, z, _ => z
  | _ + 1, z, none => z
  | n + 1, z, some f => if c f then upS c H n (z + 1) (H f) else z
theorem upS_n (c : Nat → Prop) [DecidablePred c] (H : Nat → Option Nat) (n : Nat) (z : Nat) : upS c H n z none = z := by cases n <;> rfl
theorem upS_t {c : Nat → Prop} [DecidablePred c] {H : Nat → Option Nat} {n z f : Nat} (h : c f) : upS c H (n + 1) z (some f) = upS c H n (z + 1) (H f) := if_pos h
theorem upS_f {c : Nat → Prop} [DecidablePred c] {H : Nat → Option Nat} {n z f : Nat} (h : ¬ c f) : upS c H (n + 1) z (some f) = z := if_neg h

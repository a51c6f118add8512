/-- the first frame up the holders whose level is lv or more -/
def wyP (P : PS) (lv : Nat) : Nat → Option Nat → Option Nat
  | 0, r => r
  | _ + 1, none => none
  | n + 1, some f => if lv ≤ pL P f then some f else wyP P lv n (pH P f)
theorem wy_n (P : PS) (lv n : Nat) : wyP P lv n none = none := by cases n <;> rfl
theorem wy_t {P : PS} {lv n f : Nat} (h : lv ≤ pL P f) : wyP P lv (n + 1) (some f) = some f := if_pos h
theorem wy_f {P : PS} {lv n f : Nat} (h : ¬ lv ≤ pL P f) : wyP P lv (n + 1) (some f) = wyP P lv n (pH P f) := if_neg h
def plO (P : PS) (pl : Nat → Nat) : Option Nat → Int32
  | none => -1
  | some f => plI P pl f
